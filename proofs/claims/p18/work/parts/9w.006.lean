section mg_9x
section CHG
variable {x : Int} {m pool c : Nat → Int} {S : Nat → Option mO} {C : Nat → Nat → Int} {nm : Nat → Int64} {g : Nat → Option Nat}
/-- a scope's shutting begins -/
theorem CR_scb (h : CRx x m pool S c C nm g) (hok : mOk m) (hx : x ≤ 0) {a : Nat} (ha : (a : Int) < m 0) (h0 : m (18 + 4 * a) = 0) : CRx x (updI m (18 + 4 * a) 1) pool S (updI c (304 + 3 * a) 2) C nm g := by
  obtain ⟨n, T, A, K, L, ⟨Z, e⟩, ⟨F, f⟩, G, R⟩ := h
  have k0 := hok.2.1
  have k1 := hok.2.2.1
  have k2 := hok.2.2.2.1
  have k3 := hok.2.2.2.2.1
  have um : ∀ q, ¬ q = 18 + 4 * a → updI m (18 + 4 * a) 1 q = m q := fun q w => updI_n w
  have uc : ∀ q, ¬ q = 304 + 3 * a → updI c (304 + 3 * a) 2 q = c q := fun q w => updI_n w
  refine ⟨?_, ?_, ?_, ?_, ?_, ⟨Z, ?_⟩, ⟨F, ?_⟩, ?_, updI_r R.1 (by decide), R.2⟩
  · unfold crN
    rw [um 0 (by omega), um 1 (by omega), um 2 (by omega), um 3 (by omega), uc 0 (by omega), uc 1 (by omega), uc 2 (by omega), uc 8 (by omega), uc 9 (by omega)]
    exact n
  · exact crT_c T k1.2 (um 1 (by omega)) (fun q w y => um q (by omega)) (fun q w y => uc q (by omega)) rfl
  · intro u hu
    rw [um 0 (by omega)] at hu
    obtain ⟨t1, t2, t3⟩ := A u hu
    rw [uc (305 + 3 * u) (by omega), uc (306 + 3 * u) (by omega), um (19 + 4 * u) (by omega), um (21 + 4 * u) (by omega)]
    refine ⟨?_, t2, t3⟩
    by_cases w : u = a
    · subst w; rw [updI_s, updI_s]; decide
    · rw [uc _ (by omega), um _ (by omega)]; exact t1
  · exact crK_c K (um 3 (by omega)) (fun q w y => um q (by omega)) (fun q w => uc q (by omega)) k3.2
  · exact crL_c L k2.2 (um 2 (by omega)) (fun q w y => um q (by omega)) (fun q w y => um q (by omega)) rfl rfl
  · refine crE_c e k1.2 (uc 10 (by omega)) (um 0 (by omega)) (um 1 (by omega)) (um 6 (by omega)) (fun u hu => by rw [um _ (by omega), um _ (by omega)]; exact ⟨Iff.rfl, rfl⟩) (fun u hu hb => ?_)
    rw [um (20 + 4 * u) (by omega)]
    refine ⟨?_, rfl⟩
    by_cases w : u = a
    · subst w; rw [updI_s, h0]; decide
    · rw [um _ (by omega)]
  · have := f.2.1
    exact crF_c f (by omega) (uc 11 (by omega)) (uc 12 (by omega)) (uc 13 (by omega)) (uc 4 (by omega)) (um 2 (by omega)) (um 4 (by omega)) (um 5 (by omega)) (fun q w y => um q (by omega)) rfl rfl rfl
  · exact crG_c G k1.2 (um 1 (by omega)) (fun u hu => ⟨um _ (by omega), um _ (by omega)⟩) (fun _ _ => rfl)
end CHG
end mg_9x

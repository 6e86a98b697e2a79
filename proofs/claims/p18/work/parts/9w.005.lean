section mg_9x
section CHG
variable {x : Int} {m pool c : Nat → Int} {S : Nat → Option mO} {C : Nat → Nat → Int} {nm : Nat → Int64} {g : Nat → Option Nat}
/-- a closing begins -/
theorem CR_cng (h : CRx x m pool S c C nm g) (hok : mOk m) (hx : x ≤ 0) {t : Nat} (ht : (t : Int) < m 1) (h0 : m (258 + 14 * t) = 0) : CRx x (updI m (258 + 14 * t) 1) pool S (updI c (32 + 3 * t) 2) C nm (btG g t) := by
  obtain ⟨n, T, A, K, L, ⟨Z, e⟩, ⟨F, f⟩, G, R⟩ := h
  have k0 := hok.2.1
  have k1 := hok.2.2.1
  have k2 := hok.2.2.2.1
  have k3 := hok.2.2.2.2.1
  have um : ∀ q, ¬ q = 258 + 14 * t → updI m (258 + 14 * t) 1 q = m q := fun q a => updI_n a
  have uc : ∀ q, ¬ q = 32 + 3 * t → updI c (32 + 3 * t) 2 q = c q := fun q a => updI_n a
  refine ⟨?_, ?_, ?_, ?_, ?_, ⟨Z, ?_⟩, ⟨F, ?_⟩, ?_, updI_r R.1 (by decide), R.2⟩
  · unfold crN
    rw [um 0 (by omega), um 1 (by omega), um 2 (by omega), um 3 (by omega), uc 0 (by omega), uc 1 (by omega), uc 2 (by omega), uc 8 (by omega), uc 9 (by omega)]
    exact n
  · intro u hu
    rw [um 1 (by omega)] at hu
    obtain ⟨t1, t2, t3, t4, t5⟩ := T u hu
    rw [uc (33 + 3 * u) (by omega), uc (34 + 3 * u) (by omega), um (259 + 14 * u) (by omega), um (264 + 14 * u) (by omega)]
    refine ⟨?_, t2, t3, t4.trans (nmR_c (um _ (by omega)) t5.1.2 (fun j hj => um _ (by omega))).symm, nmOk_c (um _ (by omega)) (fun j hj => um _ (by omega)) t5⟩
    by_cases w : u = t
    · subst w; rw [updI_s, updI_s]; decide
    · rw [uc _ (by omega), um _ (by omega)]; exact t1
  · exact crS_c A k0.2 (um 0 (by omega)) (fun q a b => um q (by omega)) (fun q a b => uc q (by omega))
  · exact crK_c K (um 3 (by omega)) (fun q a b => um q (by omega)) (fun q a => uc q (by omega)) k3.2
  · exact crL_c L k2.2 (um 2 (by omega)) (fun q a b => um q (by omega)) (fun q a b => um q (by omega)) rfl rfl
  · refine crE_c e k1.2 (uc 10 (by omega)) (um 0 (by omega)) (um 1 (by omega)) (um 6 (by omega)) (fun u hu => ?_) (fun a ha hb => by rw [um _ (by omega), um _ (by omega)]; exact ⟨Iff.rfl, rfl⟩)
    rw [um (260 + 14 * u) (by omega)]
    refine ⟨?_, rfl⟩
    by_cases w : u = t
    · subst w; rw [updI_s, h0]; decide
    · rw [um _ (by omega)]
  · have := f.2.1
    exact crF_c f (by omega) (uc 11 (by omega)) (uc 12 (by omega)) (uc 13 (by omega)) (uc 4 (by omega)) (um 2 (by omega)) (um 4 (by omega)) (um 5 (by omega)) (fun q a b => um q (by omega)) rfl rfl rfl
  · exact crG_c G k1.2 (um 1 (by omega)) (fun u hu => ⟨um _ (by omega), um _ (by omega)⟩) (fun u hu => by unfold btG; exact updO_n (by omega))
end CHG
end mg_9x

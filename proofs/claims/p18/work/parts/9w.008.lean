section mg_9x
section CHG
variable {x : Int} {m pool c : Nat → Int} {S : Nat → Option mO} {C : Nat → Nat → Int} {nm : Nat → Int64} {g : Nat → Option Nat}
/-- a task's state, or that it is asked for -/
theorem CR_tk (h : CRx x m pool S c C nm g) (hok : mOk m) (hx : x ≤ 0) {q0 : Nat} {v : Int} (hq : q0 < 10) (hv : InR v) : CRx x (updI m (1610 + 72 * q0) v) pool S (updI c (489 + 9 * q0) v) C nm g ∧ CRx x (updI m (1614 + 72 * q0) v) pool S (updI c (496 + 9 * q0) v) C nm g := by
  have main : ∀ i j : Nat, ((i = 1610 + 72 * q0 ∧ j = 489 + 9 * q0) ∨ (i = 1614 + 72 * q0 ∧ j = 496 + 9 * q0)) → CRx x (updI m i v) pool S (updI c j v) C nm g := fun i j hij => by
    obtain ⟨n, T, A, K, L, ⟨Z, e⟩, ⟨F, f⟩, G, R⟩ := h
    have k0 := hok.2.1
    have k1 := hok.2.2.1
    have k2 := hok.2.2.2.1
    have k3 := hok.2.2.2.2.1
    have um : ∀ q, ¬ q = i → updI m i v q = m q := fun q w => updI_n w
    have uc : ∀ q, ¬ q = j → updI c j v q = c q := fun q w => updI_n w
    refine ⟨?_, ?_, ?_, ?_, ?_, ⟨Z, ?_⟩, ⟨F, ?_⟩, ?_, updI_r R.1 hv, R.2⟩
    · unfold crN
      rw [um 0 (by omega), um 1 (by omega), um 2 (by omega), um 3 (by omega), uc 0 (by omega), uc 1 (by omega), uc 2 (by omega), uc 8 (by omega), uc 9 (by omega)]
      exact n
    · exact crT_c T k1.2 (um 1 (by omega)) (fun q w y => um q (by omega)) (fun q w y => uc q (by omega)) rfl
    · exact crS_c A k0.2 (um 0 (by omega)) (fun q w y => um q (by omega)) (fun q w y => uc q (by omega))
    · intro q hq2
      rw [um 3 (by omega)] at hq2
      obtain ⟨a, b⟩ := K q hq2
      rcases hij with ⟨rfl, rfl⟩ | ⟨rfl, rfl⟩
      · rw [uc (496 + 9 * q) (by omega), um (1614 + 72 * q) (by omega)]
        refine ⟨?_, b⟩
        by_cases w : q = q0
        · subst w; rw [updI_s, updI_s]
        · rw [uc _ (by omega), um _ (by omega)]; exact a
      · rw [uc (489 + 9 * q) (by omega), um (1610 + 72 * q) (by omega)]
        refine ⟨a, ?_⟩
        by_cases w : q = q0
        · subst w; rw [updI_s, updI_s]
        · rw [uc _ (by omega), um _ (by omega)]; exact b
    · exact crL_c L k2.2 (um 2 (by omega)) (fun q w y => um q (by omega)) (fun q w y => um q (by omega)) rfl rfl
    · exact crE_c e k1.2 (uc 10 (by omega)) (um 0 (by omega)) (um 1 (by omega)) (um 6 (by omega)) (fun u hu => by rw [um _ (by omega), um _ (by omega)]; exact ⟨Iff.rfl, rfl⟩) (fun u hu hb => by rw [um _ (by omega), um _ (by omega)]; exact ⟨Iff.rfl, rfl⟩)
    · have := f.2.1
      exact crF_c f (by omega) (uc 11 (by omega)) (uc 12 (by omega)) (uc 13 (by omega)) (uc 4 (by omega)) (um 2 (by omega)) (um 4 (by omega)) (um 5 (by omega)) (fun q w y => um q (by omega)) rfl rfl rfl
    · exact crG_c G k1.2 (um 1 (by omega)) (fun u hu => ⟨um _ (by omega), um _ (by omega)⟩) (fun _ _ => rfl)
  exact ⟨main _ _ (Or.inl ⟨rfl, rfl⟩), main _ _ (Or.inr ⟨rfl, rfl⟩)⟩
end CHG
end mg_9x

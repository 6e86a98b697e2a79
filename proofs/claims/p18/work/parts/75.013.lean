section mg_77
theorem inv_move {m pool : Nat → Int} {B : Int} (h : Inv m pool B) {t : Nat} {s : Int} (ht : (t : Int) < m 1) (hs : 0 ≤ s ∧ s < m 0) (hB : B ≤ 2000000000) : Inv (movesM m t s) pool (B + 1) ∧ Ev m (movesM m t s) := by
  obtain ⟨⟨hM, k0, k1, k2, k3, k4, k5, k7⟩, g2, g3, g4, g5, g6⟩ := h
  have e : ∀ q, ¬ q = 6 → ¬ q = 259 + 14 * t → ¬ q = 260 + 14 * t → movesM m t s q = m q := fun q a b c => by
    unfold movesM
    rw [updI_n c, updI_n a, updI_n b]
  have e6 : movesM m t s 6 = m 6 + 1 := by unfold movesM; rw [updI_n (by omega), updI_s]
  have e0 : movesM m t s (260 + 14 * t) = m 6 + 1 := by unfold movesM; rw [updI_s]
  have e9 : movesM m t s (259 + 14 * t) = s := by unfold movesM; rw [updI_n (by omega), updI_n (by omega), updI_s]
  have r1 : InR (m 6 + 1) := ⟨by omega, by omega⟩
  have c : cnt (clsB (movesM m t s)) (m 1).toNat = cnt (clsB m) (m 1).toNat := cnt_congr _ (fun q hq => by unfold clsB; rw [e _ (by omega) (by omega) (by omega)])
  refine ⟨⟨⟨updM_in (updM_in (updM_in hM ⟨by omega, by omega⟩) r1) r1, ?_⟩, ?_⟩, ?_⟩
  · rw [e 0 (by omega) (by omega) (by omega), e 1 (by omega) (by omega) (by omega), e 2 (by omega) (by omega) (by omega), e 3 (by omega) (by omega) (by omega), e 4 (by omega) (by omega) (by omega), e 5 (by omega) (by omega) (by omega)]
    exact ⟨k0, k1, k2, k3, k4, k5, fun u hu => by rw [e _ (by omega) (by omega) (by omega)]; exact k7 u hu⟩
  · rw [e 0 (by omega) (by omega) (by omega), e 1 (by omega) (by omega) (by omega), e 2 (by omega) (by omega) (by omega), e 4 (by omega) (by omega) (by omega), e 5 (by omega) (by omega) (by omega), e 8 (by omega) (by omega) (by omega), e6, c]
    refine ⟨g2, fun u hu => ?_, g4, ⟨by omega, by omega⟩, fun u j hu hj => by rw [e _ (by omega) (by omega) (by omega)]; exact g6 u j hu hj⟩
    have z := g3 u hu
    unfold thOk at z ⊢
    rw [e (258 + 14 * u) (by omega) (by omega) (by omega), e6, e (261 + 14 * u) (by omega) (by omega) (by omega), e (262 + 14 * u) (by omega) (by omega) (by omega), e (263 + 14 * u) (by omega) (by omega) (by omega), e 0 (by omega) (by omega) (by omega), e 8 (by omega) (by omega) (by omega)]
    by_cases q : u = t
    · subst q; rw [e9, e0]; exact ⟨z.1, hs, ⟨z.2.2.1.1, by omega, Int.le_refl _⟩, z.2.2.2⟩
    · rw [e (259 + 14 * u) (by omega) (by omega) (by omega), e (260 + 14 * u) (by omega) (by omega) (by omega)]; exact ⟨z.1, z.2.1, ⟨z.2.2.1.1, z.2.2.1.2.1, by omega⟩, z.2.2.2⟩
  · refine ⟨fun q hq => ?_, ?_, ?_, fun u hu => ?_, fun u a b => ?_, fun u hu => Or.inl (e _ (by omega) (by omega) (by omega))⟩
    · unfold far at hq; rw [e q (by omega) (by omega) (by omega)]
    · rw [e 1 (by omega) (by omega) (by omega)]; exact Int.le_refl _
    · rw [e 2 (by omega) (by omega) (by omega), e6]; omega
    · rw [e _ (by omega) (by omega) (by omega), e _ (by omega) (by omega) (by omega), e _ (by omega) (by omega) (by omega)]
      exact ⟨rfl, rfl, Iff.rfl, id⟩
    · rw [e 1 (by omega) (by omega) (by omega)] at b; omega
end mg_77

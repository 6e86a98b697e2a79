section mg_77
/-! a fault is gathered -/
theorem inv_gath {m pool : Nat → Int} {B sink f : Int} (h : Inv m pool B) {t : Nat} (ht : t ≤ 89) (hs : InR sink) (hf : InR f) (h4 : m 4 ≤ 89) (h5 : m 5 ≤ 89) : (∀ q, InR (gathersM m sink f t q)) ∧ (∀ q, ¬ q = 4 → ¬ q = 5 → (q < 2328 ∨ 2928 ≤ q) → gathersM m sink f t q = m q) ∧ (gathersM m sink f t 4 = m 4 ∨ gathersM m sink f t 4 = m 4 + 1) ∧ (gathersM m sink f t 5 = m 5 ∨ gathersM m sink f t 5 = m 5 + 1) := by
  obtain ⟨⟨hM, k0, k1, k2, k3, k4, k5, k7⟩, g2, g3, g4, g5, g6⟩ := h
  have rt : InR (t : Int) := ⟨by omega, by omega⟩
  unfold gathersM
  split
  · refine ⟨updM_in (updM_in (updM_in hM hf) rt) ⟨by omega, by omega⟩, fun q a b c => ?_, Or.inl ?_, Or.inr ?_⟩
    · rw [updI_n b, updI_n (by omega), updI_n (by omega)]
    · rw [updI_n (by omega), updI_n (by omega), updI_n (by omega)]
    · rw [updI_s]
  · refine ⟨updM_in (updM_in (updM_in (updM_in hM hs) hf) rt) ⟨by omega, by omega⟩, fun q a b c => ?_, Or.inr ?_, Or.inl ?_⟩
    · rw [updI_n a, updI_n (by omega), updI_n (by omega), updI_n (by omega)]
    · rw [updI_s]
    · rw [updI_n (by omega), updI_n (by omega), updI_n (by omega), updI_n (by omega)]
/-! a THING is CLOSED: what its fault writes, its state, its place, THE LOG -/
theorem closedM_at {m : Nat → Int} {t : Nat} (h2 : 0 ≤ m 2 ∧ m 2 ≤ 89) (ht : t ≤ 89) : closedM m t 2 = m 2 + 1 ∧ closedM m t (258 + 14 * t) = 2 ∧ ∀ q, ¬ q = 2 → ¬ q = 258 + 14 * t → ¬ q = 264 + 14 * t → (q < 1518 ∨ 1608 ≤ q) → closedM m t q = m q := by
  unfold closedM
  refine ⟨updI_s, ?_, fun q a b c d => ?_⟩
  · rw [updI_n (by omega), updI_n (by omega), updI_n (by omega), updI_s]
  · rw [updI_n a, updI_n (by omega), updI_n c, updI_n b]
theorem closedM_in {m : Nat → Int} {t : Nat} (hM : ∀ q, InR (m q)) (h2 : 0 ≤ m 2 ∧ m 2 ≤ 89) (ht : t ≤ 89) : ∀ q, InR (closedM m t q) := by
  unfold closedM
  exact updM_in (updM_in (updM_in (updM_in hM (by decide)) (hM 2)) ⟨by omega, by omega⟩) ⟨by omega, by omega⟩
end mg_77

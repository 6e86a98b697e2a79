section mg_a0
theorem ltL_m {c f : Nat → Int} {i : Int} : ∀ t : Nat, (ltL c f i t = -1 ∧ ∀ j, j < t → ¬ (stP c (f j) ∧ ownF c (f j) = i)) ∨ (∃ j, j < t ∧ ltL c f i t = f j ∧ (stP c (f j) ∧ ownF c (f j) = i) ∧ ∀ k, j < k → k < t → ¬ (stP c (f k) ∧ ownF c (f k) = i))
  | 0 => Or.inl ⟨rfl, fun j hj => by omega⟩
  | t + 1 => by
    unfold ltL
    by_cases k : stP c (f t) ∧ ownF c (f t) = i
    · rw [if_pos k]
      exact Or.inr ⟨t, by omega, rfl, k, fun k a b => by omega⟩
    · rw [if_neg k]
      rcases ltL_m t (c := c) (f := f) (i := i) with ⟨a, b⟩ | ⟨j, a, b, d, e⟩
      · refine Or.inl ⟨a, fun j hj => ?_⟩
        by_cases w : j = t
        · subst w; exact k
        · exact b j (by omega)
      · refine Or.inr ⟨j, by omega, b, d, fun q x y => ?_⟩
        by_cases w : q = t
        · subst w; exact k
        · exact e q x (by omega)
end mg_a0

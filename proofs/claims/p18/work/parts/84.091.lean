section mg_97
theorem hnL_r {c : Nat → Int} {nm : Nat → Int64} {y : Int64} : ∀ n t : Nat, (hnL c nm y n t = -5 ∧ ∀ q, t ≤ q → q < t + n → ¬ (c (32 + 3 * q) = 0 ∧ nm q = y)) ∨ (∃ q : Nat, hnL c nm y n t = q ∧ t ≤ q ∧ q < t + n ∧ c (32 + 3 * q) = 0 ∧ nm q = y)
  | 0, t => Or.inl ⟨rfl, fun q a b => by omega⟩
  | n + 1, t => by
    unfold hnL
    by_cases k : c (32 + 3 * t) = 0 ∧ nm t = y
    · rw [if_pos k]; exact Or.inr ⟨t, rfl, by omega, by omega, k⟩
    · rw [if_neg k]
      rcases hnL_r n (t + 1) with ⟨e, a⟩ | ⟨q, e, a, b, d⟩
      · exact Or.inl ⟨e, fun q x z => if hq : q = t then hq ▸ k else a q (by omega) (by omega)⟩
      · exact Or.inr ⟨q, e, by omega, by omega, d⟩
theorem hnL_R {c : Nat → Int} {nm : Nat → Int64} {y : Int64} {N : Nat} (h : N ≤ 90) : InR (hnL c nm y N 0) := by
  rcases hnL_r (c := c) (nm := nm) (y := y) N 0 with ⟨e, -⟩ | ⟨q, e, -, b, -⟩ <;> rw [e]
  · decide
  · exact ⟨by omega, by omega⟩
end mg_97

section mg_c0
end mg_c0
section mg_c1
/-! ===== things by their names, on both sides ===== -/
theorem less_l {y : Int64} {z : Int} {f : Nat → Int} : ∀ n t, lessL y z f n t = true ↔ ∃ j : Nat, t ≤ j ∧ j < t + n ∧ (∀ i : Nat, t ≤ i → i < j → letV y (i : Int) = atF 120 z f (i : Int)) ∧ letV y (j : Int) < atF 120 z f (j : Int)
  | 0, t => ⟨fun g => absurd g Bool.false_ne_true, fun ⟨j, a, b, _⟩ => absurd b (by omega)⟩
  | n + 1, t => by
    unfold lessL
    by_cases z : letV y t = atF 120 z f t
    · rw [if_pos z, less_l n (t + 1)]
      constructor
      · rintro ⟨j, a, b, c, d⟩
        refine ⟨j, by omega, by omega, fun i h1 h2 => ?_, d⟩
        by_cases w : i = t
        · subst w; exact z
        · exact c i (by omega) h2
      · rintro ⟨j, a, b, c, d⟩
        have jt : ¬ j = t := fun w => by subst w; omega
        exact ⟨j, by omega, by omega, fun i h1 h2 => c i (by omega) h2, d⟩
    · rw [if_neg z, decide_eq_true_iff]
      constructor
      · intro g; exact ⟨t, Nat.le_refl _, by omega, fun i h1 h2 => by omega, g⟩
      · rintro ⟨j, a, b, c, d⟩
        by_cases w : j = t
        · subst w; exact d
        · exact absurd (c t (Nat.le_refl _) (by omega)) z
end mg_c1

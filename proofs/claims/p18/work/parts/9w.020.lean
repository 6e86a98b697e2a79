section mg_a0
theorem loS_m {m : Nat → Int} {s : Int} : ∀ (n t : Nat) (r : Int × Int), r.2 ≤ (loS m s n t r).2 ∧ (∀ u, t ≤ u → u < t + n → m (18 + 4 * u) = 0 → m (19 + 4 * u) = s → m (20 + 4 * u) ≤ (loS m s n t r).2) ∧ (loS m s n t r = r ∨ ∃ u : Nat, t ≤ u ∧ u < t + n ∧ loS m s n t r = (100 + (u : Int), m (20 + 4 * u)) ∧ m (18 + 4 * u) = 0 ∧ m (19 + 4 * u) = s)
  | 0, t, r => ⟨Int.le_refl _, fun u a b => by omega, Or.inl rfl⟩
  | n + 1, t, r => by
    unfold loS
    by_cases c : openB m t = true ∧ m (19 + 4 * t) = s ∧ r.2 ≤ m (20 + 4 * t)
    · rw [if_pos c]
      have c0 : m (18 + 4 * t) = 0 := by have := c.1; unfold openB at this; exact of_decide_eq_true this
      obtain ⟨a1, a2, a3⟩ := loS_m n (t + 1) (100 + (t : Int), m (20 + 4 * t)) (m := m) (s := s)
      dsimp only at a1
      refine ⟨by omega, fun u x y h1 h2 => ?_, ?_⟩
      · by_cases e : u = t
        · subst e; exact a1
        · exact a2 u (by omega) (by omega) h1 h2
      · rcases a3 with a3 | ⟨u, x, y, a3⟩
        · exact Or.inr ⟨t, Nat.le_refl _, by omega, a3, c0, c.2.1⟩
        · exact Or.inr ⟨u, by omega, by omega, a3⟩
    · rw [if_neg c]
      obtain ⟨a1, a2, a3⟩ := loS_m n (t + 1) r (m := m) (s := s)
      refine ⟨a1, fun u x y h1 h2 => ?_, ?_⟩
      · by_cases e : u = t
        · subst e
          have : ¬ r.2 ≤ m (20 + 4 * u) := fun g => c ⟨by unfold openB; exact decide_eq_true h1, h2, g⟩
          omega
        · exact a2 u (by omega) (by omega) h1 h2
      · rcases a3 with a3 | ⟨u, x, y, a3⟩
        · exact Or.inl a3
        · exact Or.inr ⟨u, by omega, by omega, a3⟩
end mg_a0

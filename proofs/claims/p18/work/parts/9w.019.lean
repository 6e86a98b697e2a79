section mg_a0
theorem loT_m {m : Nat → Int} {s : Int} : ∀ (n t : Nat) (r : Int × Int), r.2 ≤ (loT m s n t r).2 ∧ (∀ u, t ≤ u → u < t + n → m (258 + 14 * u) = 0 → m (259 + 14 * u) = s → m (260 + 14 * u) ≤ (loT m s n t r).2) ∧ (loT m s n t r = r ∨ ∃ u : Nat, t ≤ u ∧ u < t + n ∧ loT m s n t r = ((u : Int), m (260 + 14 * u)) ∧ m (258 + 14 * u) = 0 ∧ m (259 + 14 * u) = s)
  | 0, t, r => ⟨Int.le_refl _, fun u a b => by omega, Or.inl rfl⟩
  | n + 1, t, r => by
    unfold loT
    by_cases c : heldB m t = true ∧ m (259 + 14 * t) = s ∧ r.2 ≤ m (260 + 14 * t)
    · rw [if_pos c]
      have c0 : m (258 + 14 * t) = 0 := by have := c.1; unfold heldB at this; exact of_decide_eq_true this
      obtain ⟨a1, a2, a3⟩ := loT_m n (t + 1) ((t : Int), m (260 + 14 * t)) (m := m) (s := s)
      dsimp only at a1
      refine ⟨by omega, fun u x y h1 h2 => ?_, ?_⟩
      · by_cases e : u = t
        · subst e; exact a1
        · exact a2 u (by omega) (by omega) h1 h2
      · rcases a3 with a3 | ⟨u, x, y, a3⟩
        · exact Or.inr ⟨t, Nat.le_refl _, by omega, a3, c0, c.2.1⟩
        · exact Or.inr ⟨u, by omega, by omega, a3⟩
    · rw [if_neg c]
      obtain ⟨a1, a2, a3⟩ := loT_m n (t + 1) r (m := m) (s := s)
      refine ⟨a1, fun u x y h1 h2 => ?_, ?_⟩
      · by_cases e : u = t
        · subst e
          have : ¬ r.2 ≤ m (260 + 14 * u) := fun g => c ⟨by unfold heldB; exact decide_eq_true h1, h2, g⟩
          omega
        · exact a2 u (by omega) (by omega) h1 h2
      · rcases a3 with a3 | ⟨u, x, y, a3⟩
        · exact Or.inl a3
        · exact Or.inr ⟨u, by omega, by omega, a3⟩
end mg_a0

section mg_a7
theorem nx_a {m : Nat → Int} : ∀ (n t a : Nat), a < t → ∃ w : Nat, nxL m n t (a : Int) = w ∧ (w = a ∨ (t ≤ w ∧ w < t + n ∧ readyB m w = true ∧ aheadP m w a)) ∧ ∀ u, t ≤ u → u < t + n → readyB m u = true → u = w ∨ aheadP m w u
  | 0, t, a, h => ⟨a, rfl, Or.inl rfl, fun u x y => by omega⟩
  | n + 1, t, a, h => by
    unfold nxL
    by_cases c : readyB m t = true ∧ ((a : Int) < 0 ∨ aheadP m t ((a : Int)).toNat)
    · rw [if_pos c]
      have c2 : aheadP m t a := by
        rcases c.2 with x | x
        · omega
        · rw [show ((a : Int)).toNat = a by omega] at x; exact x
      obtain ⟨w, e, w1, w2⟩ := nx_a (m := m) n (t + 1) t (by omega)
      refine ⟨w, e, Or.inr ?_, fun u x y z => ?_⟩
      · rcases w1 with rfl | ⟨w3, w4, w5, w6⟩
        · exact ⟨by omega, by omega, c.1, c2⟩
        · exact ⟨by omega, by omega, w5, ah_tr w6 c2⟩
      · by_cases q : u = t
        · subst q
          rcases w1 with rfl | ⟨w3, w4, w5, w6⟩
          · exact Or.inl rfl
          · exact Or.inr w6
        · exact w2 u (by omega) (by omega) z
    · rw [if_neg c]
      obtain ⟨w, e, w1, w2⟩ := nx_a (m := m) n (t + 1) a (by omega)
      refine ⟨w, e, ?_, fun u x y z => ?_⟩
      · rcases w1 with rfl | ⟨w3, w4, w5, w6⟩
        · exact Or.inl rfl
        · exact Or.inr ⟨by omega, by omega, w5, w6⟩
      · by_cases q : u = t
        · subst q
          have c2 : ¬ aheadP m u a := fun g => c ⟨z, Or.inr (by rw [show ((a : Int)).toNat = a by omega]; exact g)⟩
          have c3 := ah_to (by omega) c2
          rcases w1 with rfl | ⟨w3, w4, w5, w6⟩
          · exact Or.inr c3
          · exact Or.inr (ah_tr w6 c3)
        · exact w2 u (by omega) (by omega) z
end mg_a7

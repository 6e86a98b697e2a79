section mg_c0
/-- words that end, and their codes -/
theorem lex_cd {x y : Nat → Int} {a b : Nat} (ha : a ≤ 7) (hb : b ≤ 7) (hx : ∀ j, j < a → isLt (x j)) (hy : ∀ j, j < b → isLt (y j)) {gx gy : Nat → Nat} (ex : ∀ j, j < 7 → gx j = if j < a then (x j - 96).toNat else 0) (ey : ∀ j, j < 7 → gy j = if j < b then (y j - 96).toNat else 0) : lexP x y a b (agN a b) ↔ ∃ k, k < 7 ∧ (∀ j, j < k → gx j = gy j) ∧ gx k < gy k := by
  have hM : agN a b = if a ≤ b then a else b := by
    unfold agN
    by_cases z : a ≤ b
    · rw [if_pos (by omega), if_pos z]; omega
    · rw [if_neg (by omega), if_neg z]; omega
  have same : ∀ j, j < a → j < b → (gx j = gy j ↔ x j = y j) := fun j h1 h2 => by
    have lx := hx j h1
    have ly := hy j h2
    unfold isLt at lx ly
    rw [ex j (by omega), ey j (by omega), if_pos h1, if_pos h2]; omega
  rw [hM]
  unfold lexP
  constructor
  · rintro (⟨j, j1, j2, j3⟩ | ⟨g1, g2⟩)
    · have ja : j < a ∧ j < b := by split at j1 <;> omega
      have lx := hx j ja.1
      have ly := hy j ja.2
      unfold isLt at lx ly
      refine ⟨j, by omega, fun i hi => (same i (by omega) (by omega)).mpr (j2 i hi), ?_⟩
      rw [ex j (by omega), ey j (by omega), if_pos ja.1, if_pos ja.2]; omega
    · have ab : a < b := by omega
      rw [if_pos (by omega)] at g1
      have ly := hy a ab
      unfold isLt at ly
      refine ⟨a, by omega, fun i hi => (same i hi (by omega)).mpr (g1 i hi), ?_⟩
      rw [ex a (by omega), ey a (by omega), if_neg (by omega), if_pos ab]; omega
  · rintro ⟨k, k1, k2, k3⟩
    have kb : k < b := by
      by_cases z : k < b
      · exact z
      · rw [ey k k1, if_neg z] at k3; omega
    by_cases ka : k < a
    · have lx := hx k ka
      have ly := hy k kb
      unfold isLt at lx ly
      rw [ex k k1, ey k k1, if_pos ka, if_pos kb] at k3
      exact Or.inl ⟨k, by split <;> omega, fun i hi => (same i (by omega) (by omega)).mp (k2 i hi), by omega⟩
    · have ea : k = a := by
        by_cases z : k = a
        · exact z
        · exfalso
          have q := k2 a (by omega)
          have ly := hy a (by omega)
          unfold isLt at ly
          rw [ex a (by omega), ey a (by omega), if_neg (by omega), if_pos (by omega)] at q
          omega
      subst ea
      rw [if_pos (by omega)]
      exact Or.inr ⟨fun i hi => (same i hi (by omega)).mp (k2 i hi), by omega⟩
end mg_c0

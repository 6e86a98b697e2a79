section mg_84
theorem min_T {sr : Nat → Int} {steps : Nat → Nat → Prop} (hs : ∀ a b, steps a b → ∀ j, a ≤ j → j < b → minP sr j) {p e : Nat} (h : stepT sr steps p e) (he : ¬ dgP (sr e)) {j : Nat} (h1 : p ≤ j) (h2 : j < e) : minP sr j := by
  intro z
  rcases h with ⟨k1, k2, k3, k4⟩ | ⟨k1, k2⟩ | ⟨k1, q, k2, k3⟩ | ⟨k1, k2⟩ | ⟨k1, q, k2, k3, k4⟩ | ⟨k1, k2, k3⟩ | ⟨k1, k2⟩
  · by_cases c : p + 3 ≤ j
    · exact min_sgn k4 he c h2 z
    · have : j = p ∨ j = p + 1 ∨ j = p + 2 := by omega
      rcases this with rfl | rfl | rfl <;> omega
  · by_cases c : p + 1 ≤ j
    · exact absurd z (min_num k2 c h2)
    · have : j = p := by omega
      subst this; omega
  · have hq := k2.1
    by_cases c : j < q
    · by_cases c2 : p + 1 ≤ j
      · exact absurd z (min_nam k2 c2 c)
      · have : j = p := by omega
        subst this; omega
    · rcases k3 with ⟨rfl, _⟩ | ⟨k3, r, k4, k5, k6, rfl⟩
      · omega
      · by_cases c2 : j = q
        · subst c2; omega
        · by_cases c3 : j = r
          · subst c3; omega
          · exact hs _ _ k4 j (by omega) (by omega) z
  · by_cases c : p + 1 ≤ j
    · exact absurd z (min_nam k2 c h2)
    · have : j = p := by omega
      subst this; omega
  · have hq := k2.1
    by_cases c : j < q
    · by_cases c2 : p + 1 ≤ j
      · exact absurd z (min_nam k2 c2 c)
      · have : j = p := by omega
        subst this; omega
    · by_cases c2 : j = q
      · subst c2; omega
      · exact absurd z (min_num k4 (by omega) h2)
  · have : j = p ∨ j = p + 1 := by omega
    unfold dgP at k2
    rcases this with rfl | rfl <;> omega
  · have : j = p := by omega
    subst this; omega
end mg_84

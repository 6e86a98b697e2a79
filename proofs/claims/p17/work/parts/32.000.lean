/-! ===== contracts of the reference: copies; a step a ===== -/
def cpF (f g : Nat → Int) (k : Nat) : Nat → Int := fun q => if q < k then f q else g q
theorem cpF_0 (f g : Nat → Int) : cpF f g 0 = g := by funext q; simp [cpF]
theorem cpF_s (f g : Nat → Int) (k : Nat) : updI (cpF f g k) k (f k) = cpF f g (k + 1) := by
  funext q
  unfold updI cpF
  by_cases h : q = k
  · subst h; simp
  · by_cases h2 : q < k
    · simp [h, h2, Nat.lt_succ_of_lt h2]
    · have h3 : ¬ q < k + 1 := by omega
      simp [h, h2, h3]

section mg_9k
theorem ftE_i {e p : Int} (hp : 0 ≤ p) : ftE (ftE e p) p = ftE e p := by
  unfold ftE
  by_cases h : e < 0
  · rw [if_pos h, if_neg (by omega)]
  · rw [if_neg h, if_neg h]
end mg_9k

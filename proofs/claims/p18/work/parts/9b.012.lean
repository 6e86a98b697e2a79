section mg_9d
theorem fcF_r {c f : Nat → Int} {F : Nat} {i : Int} : 0 ≤ fcF c f F i ∧ fcF c f F i ≤ F + 1 := by
  unfold fcF
  have := cnt_r (gbB (b0F c i) f i) F
  split <;> omega
end mg_9d

/-! ===== the calls that only ask, on both ===== -/
section G2
variable {sg : Bool} {G : mG} {l : Launch} {x y n : Nat} {h : mH} {f4 : Int} {m kpm pool : Nat → Int} {zt : Int} {ft : Nat → Int} {f18 : Int} {pap rwd rw : Nat → Int}
theorem sw_0 {s : Int} (h : (0 ≤ s ∧ s ≤ 2) ∧ ¬ s = 1) : swT s = if s = 0 then 0 else 1 := by
  unfold swT
  rw [if_neg h.2]
  (repeat' split) <;> omega
end G2
/-! ===== the reference's world: an object with 21 fields, nine rows of ints behind it ===== -/
def mBlk (x : Nat) : Nat → Prop := fun b => x ≤ b ∧ b < x + 10
theorem x_blk {x : Nat} : mBlk x x := by unfold mBlk; omega
section IM
variable {h : mH} {x : Nat} {fs : List Value} {m kp was pool tape pln pap rwd rw : Nat → Int}
end IM
section RM
variable {G : mG} {l : Launch} {d : Nat} {M : mM} {pc : Nat} {ls : List (Option Value)} {st : List Value} {h : mH} {Q : Option Value → mH → Prop} {x : Nat} {fs : List Value} {m kp was pool tape pln pap rwd rw : Nat → Int}
end RM

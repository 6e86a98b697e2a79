section mg_36
def cancelV (m : Nat → Int) (t : Int) : Int := if 0 ≤ t ∧ t ≤ m 3 - 1 then (if m (1610 + 72 * t).toNat = 0 then 1 - m (1614 + 72 * t).toNat else -3) else -1
def canDo (m : Nat → Int) (t : Int) : Prop := (0 ≤ t ∧ t ≤ m 3 - 1) ∧ m (1610 + 72 * t).toNat = 0
end mg_36

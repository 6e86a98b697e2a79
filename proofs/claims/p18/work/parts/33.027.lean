section mg_36
def rankV (m : Nat → Int) (t p : Int) : Int := if 0 ≤ t ∧ t ≤ m 3 - 1 then (if -99 ≤ p ∧ p ≤ 99 then (if m (1610 + 72 * t).toNat = 0 then m (1609 + 72 * t).toNat + 100 else -3) else -2) else -1
def rankDo (m : Nat → Int) (t p : Int) : Prop := canDo m t ∧ (-99 ≤ p ∧ p ≤ 99)
end mg_36

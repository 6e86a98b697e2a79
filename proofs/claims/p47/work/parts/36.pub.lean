/-! ===== contracts of the reference: counters, cancel, rank, below, youngest ===== -/
/-- an int's own whole number -/
noncomputable def wrap (z : Int) : Int := (J z).toInt
theorem J_wrap (z : Int) : J z = J (wrap z) := J_of (J z)
theorem wrap_r (z : Int) : InR (wrap z) := J_rg (J z)
noncomputable def countV (m : Nat → Int) (k v : Int) : Int := if 0 ≤ k ∧ k ≤ 7 then wrap (m (10 + k).toNat + v) else -1
def cancelV (m : Nat → Int) (t : Int) : Int := if 0 ≤ t ∧ t ≤ m 3 - 1 then (if m (1610 + 72 * t).toNat = 0 then 1 - m (1614 + 72 * t).toNat else -3) else -1
def canDo (m : Nat → Int) (t : Int) : Prop := (0 ≤ t ∧ t ≤ m 3 - 1) ∧ m (1610 + 72 * t).toNat = 0
def rankV (m : Nat → Int) (t p : Int) : Int := if 0 ≤ t ∧ t ≤ m 3 - 1 then (if -99 ≤ p ∧ p ≤ 99 then (if m (1610 + 72 * t).toNat = 0 then m (1609 + 72 * t).toNat + 100 else -3) else -2) else -1
def rankDo (m : Nat → Int) (t p : Int) : Prop := canDo m t ∧ (-99 ≤ p ∧ p ≤ 99)
section mg_34
def heldInB (m : Nat → Int) (C : Nat) (o : Int) (t : Nat) : Bool := heldB m t && belowB m C o (m (259 + 14 * t))
def ownOk (m : Nat → Int) (N C : Nat) : Prop := ∀ t, t < N → 0 ≤ m (259 + 14 * t) ∧ m (259 + 14 * t) < C
end mg_34

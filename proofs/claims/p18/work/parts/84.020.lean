section mg_86
def haB (c : Nat → Int) (nm : Nat → Int64) (y : Int64) (t : Nat) : Bool := decide (c (32 + 3 * t) = 0 ∧ (nm t).toInt < y.toInt)
end mg_86

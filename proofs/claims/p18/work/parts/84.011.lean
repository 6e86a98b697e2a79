section mg_85
def hwB (c : Nat → Int) (i : Int) (t : Nat) : Bool := decide (c (32 + 3 * t) = 0 ∧ wiL c i 60 (c (33 + 3 * t)) = true)
end mg_85

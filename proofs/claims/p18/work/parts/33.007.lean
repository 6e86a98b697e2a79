section mg_33
def openV (m : Nat → Int) (a : Int) : Int := if 0 ≤ a ∧ a ≤ m 0 - 1 then (if openP m a then (if m 0 = 60 then -4 else m 0) else -3) else -1
end mg_33

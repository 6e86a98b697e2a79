section mg_33
def paperV (f18 : Int) (pap : Nat → Int) (i : Int) : Int := if 0 ≤ i ∧ i ≤ f18 - 1 then pap i.toNat else -1
def logV (m : Nat → Int) (i : Int) : Int := if 0 ≤ i ∧ i ≤ m 2 - 1 then m (1518 + i).toNat else -1
end mg_33

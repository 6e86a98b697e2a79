section mg_39
def manyV (m : Nat → Int) (N : Nat) (t : Int) : Int := if 0 ≤ t then cnt (faultB m t) N + (if m (1618 + 72 * t).toNat = 0 then 0 else 1) else m 5
end mg_39

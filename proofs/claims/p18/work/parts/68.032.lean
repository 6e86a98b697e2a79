section mg_72
def wouldV (m w : Nat → Int) (k : Int) : Int := if k = 0 then m 5 else if k = 1 then (if m 5 = 0 then 0 else m 2688) else if k = 2 then (if m 5 = 0 then -1 else m 2689) else if k = 3 then m 2 - w 2 else if k = 4 then m 1 - w 1 else cnt (heldB m) (m 1).toNat
end mg_72

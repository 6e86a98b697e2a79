section mg_72
def trialV (m : Nat → Int) (t k : Int) : Int := if k = 0 then manyV m (m 4).toNat t else if k = 1 then (if manyV m (m 4).toNat t = 0 then 0 else faultAtV m (m 4).toNat t 0 0) else if k = 2 then (if manyV m (m 4).toNat t = 0 then -1 else faultAtV m (m 4).toNat t 0 1) else if k = 3 then m (1610 + 72 * t).toNat else if k = 4 then m (1612 + 72 * t).toNat else m 2
end mg_72

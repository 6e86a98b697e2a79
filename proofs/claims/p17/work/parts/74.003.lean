def planV (p : Nat → Int) (k : Nat) (i : Int) : Int := if -1 ≤ i ∧ i ≤ (k : Int) - 1 then (if i < 0 then (k : Int) else p i.toNat) else -1

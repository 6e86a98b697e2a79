section mg_43
end mg_43
section mg_44
/-! ===== contracts of the reference: ready, pooled ===== -/
def rdB (m : Nat → Int) (i j : Nat) : Bool := readyB m j && (decide (¬ j = i) && decide (aheadP m j i))
def rdO (m : Nat → Int) (T : Nat) (k : Int) : Nat → Nat → Int
  | 0, _ => -5
  | n + 1, i => if readyB m i = true ∧ cnt (rdB m i) T = k then (i : Int) else rdO m T k n (i + 1)
def readyV (m : Nat → Int) (T : Nat) (k : Int) : Int := if k < 0 then -1 else rdO m T k T 0
end mg_44

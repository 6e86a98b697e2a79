section mg_73
def nmB (m : Nat → Int) (t o : Nat) : Bool := heldB m o && decide (agT m o t < 0)
def bnL (m : Nat → Int) (N : Nat) (i : Int) : Nat → Nat → Int
  | 0, _ => -1
  | n + 1, t => if heldB m t = true ∧ cnt (nmB m t) N = i then (t : Int) else bnL m N i n (t + 1)
end mg_73

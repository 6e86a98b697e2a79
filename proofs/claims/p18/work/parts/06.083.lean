section mg_31
def nxL (m : Nat → Int) : Nat → Nat → Int → Int
  | 0, _, f => f
  | n + 1, t, f => nxL m n (t + 1) (if readyB m t = true ∧ (f < 0 ∨ aheadP m t f.toNat) then (t : Int) else f)
end mg_31

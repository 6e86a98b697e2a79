section mg_40
def ygL (m : Nat → Int) (C : Nat) (a : Int) : Nat → Nat → Int → Int
  | 0, _, f => f
  | n + 1, t, f => ygL m C a n (t + 1) (if heldInB m C a t = true then (t : Int) else f)
def youngV (m : Nat → Int) (N C : Nat) (a : Int) : Int := if 0 ≤ a ∧ a ≤ m 0 - 1 then ygL m C a N 0 (-5) else -1
end mg_40

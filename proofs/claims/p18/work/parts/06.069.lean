section mg_29
/-- the first of n things from t on that is held and has the name; -5 -/
def hbL (m rc : Nat → Int) (fr to : Nat) : Nat → Nat → Int
  | 0, _ => -5
  | n + 1, t => if heldB m t = true ∧ namedB m rc t fr to = true then t else hbL m rc fr to n (t + 1)
end mg_29

/-! ===== contracts of the reference: names ===== -/
def nmL (m rc : Nat → Int) (t fr : Nat) : Nat → Nat → Bool
  | 0, _ => true
  | n + 1, k => if m (265 + 14 * t + (k - fr)) = rc k then nmL m rc t fr n (k + 1) else false
def namedB (m rc : Nat → Int) (t fr to : Nat) : Bool := decide (m (261 + 14 * t) = (to : Int) - fr) && nmL m rc t fr (to - fr) fr
/-- the row of a name: the tape's or the pool's -/
def rowOk (rs : Nat) (rc pool tape : Nat → Int) (to : Nat) : Prop := (rs = 4 ∧ rc = tape ∧ to ≤ 120) ∨ (rs = 3 ∧ rc = pool ∧ to ≤ 12342)
/-- the first of n things from t on that is held and has the name; -5 -/
def hbL (m rc : Nat → Int) (fr to : Nat) : Nat → Nat → Int
  | 0, _ => -5
  | n + 1, t => if heldB m t = true ∧ namedB m rc t fr to = true then t else hbL m rc fr to n (t + 1)
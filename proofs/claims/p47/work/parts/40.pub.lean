/-! ===== contracts of the reference: counter, get, youngest, entry ===== -/
/-- an int as a long -/
noncomputable def lgV (z : Int) : Value := .long (J z).toInt64
def lgNo : Value := .long (-9223372036854775808)
noncomputable def counterV (m : Nat → Int) (k : Int) : Value := if 0 ≤ k ∧ k ≤ 7 then lgV (m (10 + k).toNat) else lgNo
noncomputable def getV (rwd rw : Nat → Int) (a i : Int) : Value := if wrongV rwd a = 0 ∧ (0 ≤ i ∧ i ≤ rwd a.toNat - 1) then lgV (rw (40 * a + i).toNat) else lgNo
def ygL (m : Nat → Int) (C : Nat) (a : Int) : Nat → Nat → Int → Int
  | 0, _, f => f
  | n + 1, t, f => ygL m C a n (t + 1) (if heldInB m C a t = true then (t : Int) else f)
def youngV (m : Nat → Int) (N C : Nat) (a : Int) : Int := if 0 ≤ a ∧ a ≤ m 0 - 1 then ygL m C a N 0 (-5) else -1
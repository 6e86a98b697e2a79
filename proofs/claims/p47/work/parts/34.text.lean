/-! ===== contracts of the reference: texts of steps from their begin; the pool; scopes above ===== -/
def stepsW (sr : Nat → Int) (len : Int) (w : Int) (it : Bool) : PS → Bool × PS := stepsR sr len (stepN sr len 8 w it false)
theorem stepsW_p {sr : Nat → Int} {len w : Int} {it : Bool} : psUp len (stepsW sr len w it) := stepsR_p (stepN_p _ _ _ _)
def stepsInV (pool : Nat → Int) (fr to : Int) (f11 f12 : Int) : Int := if fr = to then 0 else (stepsW pool to 0 true (fr, -1, f11, f12, 90)).2.2.2.2.1
def upK (m : Nat → Int) (o : Int) : Nat → Int → Int
  | 0, k => k
  | n + 1, k => if 0 ≤ k ∧ ¬ k = o then upK m o n (m (19 + 4 * k).toNat) else k
def upN (m : Nat → Int) : Nat → Int → Int
  | 0, _ => 0
  | n + 1, k => if 0 ≤ k then 1 + upN m n (m (19 + 4 * k).toNat) else 0
/-- every scope's parent is an elder one, or none (below 0) -/
def parOk (m : Nat → Int) (C : Nat) : Prop := ∀ k : Int, 0 ≤ k → k < C → -5 ≤ m (19 + 4 * k).toNat ∧ m (19 + 4 * k).toNat < k
def belowB (m : Nat → Int) (C : Nat) (o a : Int) : Bool := decide (upK m o C a = o)
def heldInB (m : Nat → Int) (C : Nat) (o : Int) (t : Nat) : Bool := heldB m t && belowB m C o (m (259 + 14 * t))
def ownOk (m : Nat → Int) (N C : Nat) : Prop := ∀ t, t < N → 0 ≤ m (259 + 14 * t) ∧ m (259 + 14 * t) < C
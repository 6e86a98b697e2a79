/-! ===== contracts of the reference: texts from end to end, the tape ===== -/
def wholeR (len : Int) (q : PS) : Bool × PS := if q.1 = len ∧ q.2.2.2.2 = 0 then (true, q) else (false, failF q.1 q)
def feedV (f6 c : Int) : Int := if 1 ≤ c ∧ c ≤ 127 then (if f6 = 120 then -4 else f6 + 1) else -2
def feedC (f6 c : Int) : Prop := (1 ≤ c ∧ c ≤ 127) ∧ ¬ f6 = 120
def movesM (m : Nat → Int) (t : Nat) (s : Int) : Nat → Int := updI (updI (updI m (259 + 14 * t) s) 6 (m 6 + 1)) (260 + 14 * t) (m 6 + 1)
section mg_75
def newTaskM (m : Nat → Int) (a b : Int) (len : Nat) : Nat → Int :=
  updI (updI (updI (updI (updI (updI (updI (opensM (updI (zrF (updI m 3 (m 3 + 1)) (1608 + 72 * (m 3).toNat) 72) 8 (m 8 + (len : Nat) + 1)) (m 0).toNat a (m 3)) (1608 + 72 * (m 3).toNat) (m 0)) (1609 + 72 * (m 3).toNat) b) (1611 + 72 * (m 3).toNat) (m 8)) (1616 + 72 * (m 3).toNat) (m 8)) (1617 + 72 * (m 3).toNat) (m 8 + len)) (1619 + 72 * (m 3).toNat) 1) (1620 + 72 * (m 3).toNat) (m 0)
def taskR (tape : Nat → Int) (len f11 f12 : Int) : Bool × PS := wR len (stepsW tape len 0 true (ps0 f11 f12))
def taskF (m pool tape : Nat → Int) (a b : Int) (len : Nat) (f11 f12 : Int) : Int × (Nat → Int) × (Nat → Int) :=
  if (taskR tape len f11 f12).1 = true then (m 3, newTaskM m a b len, pooledP pool tape (m 8).toNat 0 len) else (-100 - (taskR tape len f11 f12).2.2.1, m, pool)
def taskN (m : Nat → Int) (a b : Int) : Int := if 0 ≤ a ∧ a ≤ m 0 - 1 then (if -99 ≤ b ∧ b ≤ 99 then (if openP m a then -4 else -3) else -2) else -1
abbrev taskDo (m : Nat → Int) (a b : Int) : Prop := (0 ≤ a ∧ a ≤ m 0 - 1) ∧ (-99 ≤ b ∧ b ≤ 99) ∧ openP m a ∧ ¬ m 3 = 10 ∧ ¬ m 0 = 60
end mg_75

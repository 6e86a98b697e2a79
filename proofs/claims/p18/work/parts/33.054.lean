section mg_41
def moveV (m : Nat → Int) (N C : Nat) (t s : Int) : Int := if (0 ≤ t ∧ t ≤ m 1 - 1) ∧ (0 ≤ s ∧ s ≤ m 0 - 1) then (if m (258 + 14 * t).toNat = 0 ∧ openP m s then entsN (movesM m t.toNat s) s N C else -3) else -1
def moveDo (m : Nat → Int) (t s : Int) : Prop := (0 ≤ t ∧ t ≤ m 1 - 1) ∧ m (258 + 14 * t).toNat = 0 ∧ openP m s
end mg_41

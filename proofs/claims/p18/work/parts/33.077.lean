section mg_45
def ofV (m pool : Nat → Int) (C : Nat) (t k f11 f12 : Int) : Int := if 0 ≤ t ∧ t ≤ m 3 - 1 then (if k = 0 then m (1610 + 72 * t).toNat else if k = 1 then m (1609 + 72 * t).toNat + 100 else if k = 2 then m (1612 + 72 * t).toNat else if k = 3 then m (1608 + 72 * t).toNat else if k = 4 then cnt (shutB m t) C else if k = 5 then m (1615 + 72 * t).toNat else if k = 6 then m (1614 + 72 * t).toNat else if k = 7 then stepsInV pool (m (1616 + 72 * t).toNat) (m (1617 + 72 * t).toNat) f11 f12 else -1) else -1
end mg_45

section mg_37
def scopeV (m : Nat → Int) (N C : Nat) (a k : Int) : Int := if 0 ≤ a ∧ a ≤ m 0 - 1 then
  (if k = 0 then (if m (18 + 4 * a).toNat = 0 then 0 else 1) else if k = 1 then m (19 + 4 * a).toNat else if k = 2 then entsN m a N C else if k = 3 then cnt (heldInB m C a) N else if k = 4 then upN m C (m (19 + 4 * a).toNat) else if k = 5 then m (21 + 4 * a).toNat else -1) else -1
end mg_37

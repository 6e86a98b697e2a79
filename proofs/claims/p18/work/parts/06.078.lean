section mg_30
end mg_30
section mg_31
/-! ===== contracts of the reference: the last entry, the next task, copies ===== -/
def loT (m : Nat → Int) (s : Int) : Nat → Nat → Int × Int → Int × Int
  | 0, _, r => r
  | n + 1, t, r => loT m s n (t + 1) (if heldB m t = true ∧ m (259 + 14 * t) = s ∧ r.2 ≤ m (260 + 14 * t) then ((t : Int), m (260 + 14 * t)) else r)
def loS (m : Nat → Int) (s : Int) : Nat → Nat → Int × Int → Int × Int
  | 0, _, r => r
  | n + 1, c, r => loS m s n (c + 1) (if openB m c = true ∧ m (19 + 4 * c) = s ∧ r.2 ≤ m (20 + 4 * c) then (100 + (c : Int), m (20 + 4 * c)) else r)
/-- the last entry of a scope that is held or open (100 and a scope's number); -5 -/
def lastM (m : Nat → Int) (s : Int) (N C : Nat) : Int := (loS m s (C - 1) 1 (loT m s N 0 (-5, -1))).1
end mg_31

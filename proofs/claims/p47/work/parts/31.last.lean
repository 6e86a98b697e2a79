/-! ===== contracts of the reference: the last entry, the next task, copies ===== -/
def loT (m : Nat → Int) (s : Int) : Nat → Nat → Int × Int → Int × Int
  | 0, _, r => r
  | n + 1, t, r => loT m s n (t + 1) (if heldB m t = true ∧ m (259 + 14 * t) = s ∧ r.2 ≤ m (260 + 14 * t) then ((t : Int), m (260 + 14 * t)) else r)
def loS (m : Nat → Int) (s : Int) : Nat → Nat → Int × Int → Int × Int
  | 0, _, r => r
  | n + 1, c, r => loS m s n (c + 1) (if openB m c = true ∧ m (19 + 4 * c) = s ∧ r.2 ≤ m (20 + 4 * c) then (100 + (c : Int), m (20 + 4 * c)) else r)
/-- the last entry of a scope that is held or open (100 and a scope's number); -5 -/
def lastM (m : Nat → Int) (s : Int) (N C : Nat) : Int := (loS m s (C - 1) 1 (loT m s N 0 (-5, -1))).1
theorem loT_r {m : Nat → Int} {s : Int} (hM : ∀ q, InR (m q)) : ∀ (n t : Nat) (r : Int × Int), InR r.2 → InR (loT m s n t r).2
  | 0, _, _, h => h
  | n + 1, t, r, h => by
    unfold loT
    refine loT_r hM n _ _ ?_
    split
    · exact hM _
    · exact h
theorem n_th2 (t : Nat) : (258 + 14 * (t : Int) + 2 + 0).toNat = 260 + 14 * t := by omega
theorem n_sc2 (t : Nat) : (18 + 4 * (t : Int) + 2).toNat = 20 + 4 * t := by omega
abbrev aheadP (m : Nat → Int) (a b : Nat) : Prop := m (1609 + 72 * b) < m (1609 + 72 * a) ∨ (m (1609 + 72 * a) = m (1609 + 72 * b) ∧ (m (1613 + 72 * a) < m (1613 + 72 * b) ∨ (m (1613 + 72 * a) = m (1613 + 72 * b) ∧ a < b)))
def nxL (m : Nat → Int) : Nat → Nat → Int → Int
  | 0, _, f => f
  | n + 1, t, f => nxL m n (t + 1) (if readyB m t = true ∧ (f < 0 ∨ aheadP m t f.toNat) then (t : Int) else f)
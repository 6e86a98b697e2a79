/-! ===== the reference: a step of a task, a turn ===== -/
def doesInR (pool : Nat → Int) (cl : (Nat → Int) → Nat → (Nat → Int) → Prop) (sh : (Nat → Int) → Int → (Nat → Int) → Prop) (m : Nat → Int) (t p : Nat) (f : Int) (m' : Nat → Int) : Prop :=
  mOk m ∧ t ≤ 9 ∧ p < 12342 ∧ ∃ n : Nat, n ≤ 60 ∧ m (1619 + 72 * t) = n ∧
  ((pool p = 40 ∧ ((m 0 = 60 ∧ f = 107 ∧ m' = m) ∨ (¬ m 0 = 60 ∧ ¬ openP m (m (1619 + 72 * t + n)) ∧ f = 101 ∧ m' = m) ∨ (¬ m 0 = 60 ∧ openP m (m (1619 + 72 * t + n)) ∧ f = 0 ∧ m' = updI (updI (opensM m (m 0).toNat (m (1619 + 72 * t + n)) t) (1620 + 72 * t + n) (m 0)) (1619 + 72 * t) (n + 1)))) ∨
   (pool p = 41 ∧ f = 0 ∧ sh (updI m (1619 + 72 * t) (n - 1)) (m (1619 + 72 * t + n)) m') ∨
   (¬ pool p = 40 ∧ ¬ pool p = 41 ∧ doesR pool cl m p (m (1619 + 72 * t + n)) f m'))
def turnFinR (sh : (Nat → Int) → Int → (Nat → Int) → Prop) (t E : Nat) (m : Nat → Int) (p : Nat) (m' : Nat → Int) : Prop :=
  mOk m ∧ p ≤ 12343 ∧ ((p < E ∧ m' = updI m (1611 + 72 * t) p) ∨ (E ≤ p ∧ isOverR sh t (if cnt (faultB m t) (m 4).toNat = 0 then 1 else 2) (updI m (1611 + 72 * t) p) m'))
def turnLoopR (pool : Nat → Int) (cl : (Nat → Int) → Nat → (Nat → Int) → Prop) (sh : (Nat → Int) → Int → (Nat → Int) → Prop) (t E : Nat) : Nat → (Nat → Int) → Nat → (Nat → Int) → Prop
  | 0, m, p, m' => E ≤ p ∧ turnFinR sh t E m p m'
  | k + 1, m, p, m' => (E ≤ p ∧ turnFinR sh t E m p m') ∨ (p < E ∧ ∃ f m1, doesInR pool cl sh m t p f m1 ∧ InR f ∧ (∀ q, InR (m1 q)) ∧
      ((¬ f = 0 ∧ isOverR sh t 2 (updI m1 (1618 + 72 * t) f) m') ∨
       (f = 0 ∧ ((pool p = 46 ∧ turnFinR sh t E (updI m1 (1615 + 72 * t) (m1 (1615 + 72 * t) + 1)) (behL pool (E - p) p 0 + 1) m') ∨
                 (¬ pool p = 46 ∧ turnLoopR pool cl sh t E k (updI m1 (1615 + 72 * t) (m1 (1615 + 72 * t) + 1)) (behL pool (E - p) p 0 + 1) m')))))
def turnM (m : Nat → Int) (t : Nat) : Nat → Int := updI (updI (updI m 7 (m 7 + 1)) (1612 + 72 * t) (m (1612 + 72 * t) + 1)) (1613 + 72 * t) (m 7 + 1)
def turnR (pool : Nat → Int) (cl : (Nat → Int) → Nat → (Nat → Int) → Prop) (sh : (Nat → Int) → Int → (Nat → Int) → Prop) (m : Nat → Int) (t : Nat) (m' : Nat → Int) : Prop :=
  t ≤ 9 ∧ mOk (turnM m t) ∧ (∃ n : Nat, n ≤ 60 ∧ m (1619 + 72 * t) = n) ∧
  ((fineV (turnM m t) t = false ∧ isOverR sh t 3 (turnM m t) m') ∨
   (fineV (turnM m t) t = true ∧ ∃ p E k : Nat, m (1617 + 72 * t) = E ∧ m (1611 + 72 * t) = p ∧ E ≤ 12342 ∧ p ≤ 12343 ∧ turnLoopR pool cl sh t E k (turnM m t) p m'))
/-- which task has the next turn -/
def nextV (m : Nat → Int) : Int := nxL m (m 3).toNat 0 (-5)
def tickR (pool : Nat → Int) (m : Nat → Int) (m' : Nat → Int) : Prop :=
  mOk m ∧ (∀ t : Nat, (t : Int) < m 3 → -99 ≤ m (1609 + 72 * t) ∧ m (1609 + 72 * t) ≤ 99) ∧ ((nextV m < 0 ∧ m' = m) ∨ (0 ≤ nextV m ∧ turnR pool (closesR pool (nextV m) 91) (shutsR pool (nextV m) 61) m (nextV m).toNat m'))
theorem nxL_v {m : Nat → Int} : ∀ (n t : Nat) (f : Int), (f = -5 ∨ (0 ≤ f ∧ f < t)) → (nxL m n t f = -5 ∨ (0 ≤ nxL m n t f ∧ nxL m n t f < t + n))
  | 0, t, f, h => by unfold nxL; omega
  | n + 1, t, f, h => by
    unfold nxL
    have := nxL_v (m := m) n (t + 1) (if readyB m t = true ∧ (f < 0 ∨ aheadP m t f.toNat) then (t : Int) else f) (by split <;> omega)
    omega
theorem nextV_r {m : Nat → Int} (hok : mOk m) : nextV m = -5 ∨ (0 ≤ nextV m ∧ nextV m < m 3) := by
  have k3 := hok.2.2.2.2.1
  have := nxL_v (m := m) (m 3).toNat 0 (-5) (Or.inl rfl)
  unfold nextV
  omega
def sinkV (m : Nat → Int) (f14 : Int) : Int := if 0 ≤ nextV m then nextV m else f14
/-- so many ticks at most; how many there were -/
def ticksR (pool : Nat → Int) : Nat → (Nat → Int) → Nat → (Nat → Int) → Prop
  | 0, m, k, m' => k = 0 ∧ m' = m
  | n + 1, m, k, m' => ∃ m1, tickR pool m m1 ∧ ((nextV m < 0 ∧ k = 0 ∧ m' = m1) ∨ (0 ≤ nextV m ∧ ∃ k1, k = k1 + 1 ∧ ticksR pool n m1 k1 m'))
section mg_71
/-- which task has the next turn -/
def nextV (m : Nat → Int) : Int := nxL m (m 3).toNat 0 (-5)
def tickR (pool : Nat → Int) (m : Nat → Int) (m' : Nat → Int) : Prop :=
  mOk m ∧ (∀ t : Nat, (t : Int) < m 3 → -99 ≤ m (1609 + 72 * t) ∧ m (1609 + 72 * t) ≤ 99) ∧ ((nextV m < 0 ∧ m' = m) ∨ (0 ≤ nextV m ∧ turnR pool (closesR pool (nextV m) 91) (shutsR pool (nextV m) 61) m (nextV m).toNat m'))
theorem nxL_v {m : Nat → Int} : ∀ (n t : Nat) (f : Int), (f = -5 ∨ (0 ≤ f ∧ f < t)) → (nxL m n t f = -5 ∨ (0 ≤ nxL m n t f ∧ nxL m n t f < t + n))
  | 0, t, f, h => by unfold nxL; omega
  | n + 1, t, f, h => by
    unfold nxL
    have := nxL_v (m := m) n (t + 1) (if readyB m t = true ∧ (f < 0 ∨ aheadP m t f.toNat) then (t : Int) else f) (by split <;> omega)
    omega
theorem nextV_r {m : Nat → Int} (hok : mOk m) : nextV m = -5 ∨ (0 ≤ nextV m ∧ nextV m < m 3) := by
  have k3 := hok.2.2.2.2.1
  have := nxL_v (m := m) (m 3).toNat 0 (-5) (Or.inl rfl)
  unfold nextV
  omega
def sinkV (m : Nat → Int) (f14 : Int) : Int := if 0 ≤ nextV m then nextV m else f14
end mg_71

/-! ===== the reference: closing a thing ===== -/
theorem behL_r {pool : Nat → Int} : ∀ (n p : Nat) (u : Int), p ≤ behL pool n p u ∧ behL pool n p u ≤ p + n
  | 0, p, u => by unfold behL; omega
  | n + 1, p, u => by
    have h := behL_r (pool := pool) n (p + 1) (u + brk (pool p))
    unfold behL
    split <;> omega
/-! ===== the reference: a step, by its kind ===== -/
/-- what every step may lean on -/
def mOk (m : Nat → Int) : Prop := (∀ q, InR (m q)) ∧ (0 ≤ m 0 ∧ m 0 ≤ 60) ∧ (0 ≤ m 1 ∧ m 1 ≤ 90) ∧ (0 ≤ m 2 ∧ m 2 ≤ 90) ∧ (0 ≤ m 3 ∧ m 3 ≤ 10) ∧ (0 ≤ m 4 ∧ m 4 ≤ 120) ∧ (0 ≤ m 5 ∧ m 5 ≤ 120) ∧ ∀ t : Nat, (t : Int) < m 1 → m (261 + 14 * t) ≤ 7
/-- the whole number read at a place, whose figures end after n at the latest -/
def numR (pool : Nat → Int) (p : Nat) (v : Int) : Prop := ∃ n : Nat, n ≤ 20 ∧ stopsBy pool n (if pool p = 45 then p + 1 else p) ∧ v = numAt pool n p
theorem naL_r {pool : Nat → Int} : True := trivial
section mg_70
end mg_70
section mg_71
/-! ===== the reference: a step of a task, a turn ===== -/
def doesInR (pool : Nat → Int) (cl : (Nat → Int) → Nat → (Nat → Int) → Prop) (sh : (Nat → Int) → Int → (Nat → Int) → Prop) (m : Nat → Int) (t p : Nat) (f : Int) (m' : Nat → Int) : Prop :=
  mOk m ∧ t ≤ 9 ∧ p < 12342 ∧ ∃ n : Nat, n ≤ 60 ∧ m (1619 + 72 * t) = n ∧
  ((pool p = 40 ∧ ((m 0 = 60 ∧ f = 107 ∧ m' = m) ∨ (¬ m 0 = 60 ∧ ¬ openP m (m (1619 + 72 * t + n)) ∧ f = 101 ∧ m' = m) ∨ (¬ m 0 = 60 ∧ openP m (m (1619 + 72 * t + n)) ∧ f = 0 ∧ m' = updI (updI (opensM m (m 0).toNat (m (1619 + 72 * t + n)) t) (1620 + 72 * t + n) (m 0)) (1619 + 72 * t) (n + 1)))) ∨
   (pool p = 41 ∧ f = 0 ∧ sh (updI m (1619 + 72 * t) (n - 1)) (m (1619 + 72 * t + n)) m') ∨
   (¬ pool p = 40 ∧ ¬ pool p = 41 ∧ doesR pool cl m p (m (1619 + 72 * t + n)) f m'))
end mg_71

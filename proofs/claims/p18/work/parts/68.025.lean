section mg_71
/-- so many ticks at most; how many there were -/
def ticksR (pool : Nat → Int) : Nat → (Nat → Int) → Nat → (Nat → Int) → Prop
  | 0, m, k, m' => k = 0 ∧ m' = m
  | n + 1, m, k, m' => ∃ m1, tickR pool m m1 ∧ ((nextV m < 0 ∧ k = 0 ∧ m' = m1) ∨ (0 ≤ nextV m ∧ ∃ k1, k = k1 + 1 ∧ ticksR pool n m1 k1 m'))
end mg_71

section mg_70
def overR (sh : (Nat → Int) → Int → (Nat → Int) → Prop) (t : Nat) : Nat → (Nat → Int) → (Nat → Int) → Prop
  | 0, m, m' => m' = m
  | n + 1, m, m' => (∀ q, InR (m q)) ∧ ∃ m1, sh m (m (1620 + 72 * t + n)) m1 ∧ overR sh t n m1 m'
def isOverR (sh : (Nat → Int) → Int → (Nat → Int) → Prop) (t : Nat) (st : Int) (m m' : Nat → Int) : Prop := t ≤ 9 ∧ ∃ n : Nat, n ≤ 60 ∧ m (1619 + 72 * t) = n ∧ overR sh t n (updI m (1610 + 72 * t) st) m'
end mg_70

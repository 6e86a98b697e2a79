section mg_68
def doesR (pool : Nat → Int) (cl : (Nat → Int) → Nat → (Nat → Int) → Prop) (m : Nat → Int) (p : Nat) (s2 f : Int) (m' : Nat → Int) : Prop :=
  stpR pool cl m p s2 f m' ∨
  (pool p = 63 ∧ mOk m ∧ InR s2 ∧ p + 40 ≤ 12342 ∧ (48 ≤ pool (p + 1) ∧ pool (p + 1) ≤ 55) ∧ ∃ n k, digR pool (p + 3) n ∧ (p + 3 ≤ k ∧ k ≤ p + 30) ∧ pool k = 58 ∧ (∀ j, p + 3 ≤ j → j < k → ¬ pool j = 58) ∧ InR (numAt pool n (p + 3)) ∧
    ((m (10 + pool (p + 1) - 48).toNat < numAt pool n (p + 3) ∧ stpR pool cl m (k + 1) s2 f m') ∨ (¬ m (10 + pool (p + 1) - 48).toNat < numAt pool n (p + 3) ∧ f = 0 ∧ m' = m)))
/-- the steps of a thing's closer, from a place to its end -/
def loopR (pool : Nat → Int) (dr : (Nat → Int) → Nat → Int → Int → (Nat → Int) → Prop) (t E : Nat) : Nat → (Nat → Int) → Nat → Int → (Nat → Int) → Prop
  | 0, m, p, f, m' => E ≤ p ∧ f = 0 ∧ m' = m
  | n + 1, m, p, f, m' => (E ≤ p ∧ f = 0 ∧ m' = m) ∨ (p < E ∧ ∃ f1 m1, dr m p (m (259 + 14 * t)) f1 m1 ∧ InR f1 ∧ ((¬ f1 = 0 ∧ f = f1 ∧ m' = m1) ∨ (f1 = 0 ∧ loopR pool dr t E n m1 (behL pool (E - p) p 0 + 1) f m')))
def closedM (m : Nat → Int) (t : Nat) : Nat → Int := updI (updI (updI (updI m (258 + 14 * t) 2) (264 + 14 * t) (m 2)) (1518 + m 2).toNat t) 2 (m 2 + 1)
/-- a thing is closed; closers that close others go at most so deep -/
def closesR (pool : Nat → Int) (sink : Int) : Nat → (Nat → Int) → Nat → (Nat → Int) → Prop
  | 0, _, _, _ => False
  | n + 1, m, t, m' => mOk m ∧ t ≤ 89 ∧ ((¬ m (258 + 14 * t) = 0 ∧ m' = m) ∨ (m (258 + 14 * t) = 0 ∧ ∃ (p E k : Nat) (f : Int) (m2 : Nat → Int), m (262 + 14 * t) = p ∧ m (263 + 14 * t) = E ∧ p ≤ 12342 ∧ E ≤ 12342 ∧ loopR pool (doesR pool (closesR pool sink n)) t E k (updI m (258 + 14 * t) 1) p f m2 ∧ mOk m2 ∧ InR f ∧ m2 2 ≤ 89 ∧ m2 4 ≤ 119 ∧ m2 5 ≤ 119 ∧ m' = closedM (if f = 0 then m2 else gathersM m2 sink f t) t))
end mg_68

/-! ===== contracts of the reference: looking through the pool ===== -/
def neL (pool : Nat → Int) : Nat → Nat → Nat
  | 0, k => k
  | n + 1, k => if 97 ≤ pool k ∧ pool k ≤ 122 then neL pool n (k + 1) else k
def naL (pool : Nat → Int) : Nat → Nat → Int → Int
  | 0, _, v => v
  | n + 1, k, v => if 48 ≤ pool k ∧ pool k ≤ 57 then naL pool n (k + 1) (10 * v + pool k - 48) else v
def stopsBy (pool : Nat → Int) : Nat → Nat → Prop
  | 0, k => ¬ (48 ≤ pool k ∧ pool k ≤ 57)
  | n + 1, k => (48 ≤ pool k ∧ pool k ≤ 57) → stopsBy pool n (k + 1)
def numAt (pool : Nat → Int) (n p : Nat) : Int := if pool p = 45 then -(naL pool (n + 1) (p + 1) 0) else naL pool (n + 1) p 0
def brk (c : Int) : Int := if c = 123 then 1 else if c = 125 then -1 else 0
def behL (pool : Nat → Int) : Nat → Nat → Int → Nat
  | 0, p, _ => p
  | n + 1, p, w => if 0 < w ∨ ¬ pool p = 59 then behL pool n (p + 1) (w + brk (pool p)) else p
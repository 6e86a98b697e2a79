section mg_27
end mg_27
section mg_28
/-! ===== contracts of the reference: looking through the pool ===== -/
def neL (pool : Nat → Int) : Nat → Nat → Nat
  | 0, k => k
  | n + 1, k => if 97 ≤ pool k ∧ pool k ≤ 122 then neL pool n (k + 1) else k
end mg_28

section mg_40
end mg_40
section mg_41
/-! ===== contracts of the reference: faultAt, fault, entry, move ===== -/
def faJ (m : Nat → Int) (t : Int) : Nat → Nat → Int → Nat
  | 0, j, _ => j
  | n + 1, j, i => if m (2328 + 3 * j) = t ∧ i ≤ 0 then j else faJ m t n (j + 1) (i - if m (2328 + 3 * j) = t then 1 else 0)
def faultAtV (m : Nat → Int) (N : Nat) (t k w : Int) : Int := if 0 ≤ t then (if m (1618 + 72 * t).toNat = 0 then m (2329 + 3 * (faJ m t N 0 k : Int) + w).toNat else if k = 0 then (if w = 0 then m (1618 + 72 * t).toNat else -1) else m (2329 + 3 * (faJ m t N 0 (k - 1) : Int) + w).toNat) else m (2688 + 2 * k + w).toNat
end mg_41

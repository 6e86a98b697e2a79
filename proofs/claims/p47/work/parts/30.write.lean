/-! ===== contracts of the reference: names written, things taken, faults gathered ===== -/
def nwL (rc : Nat → Int) (t fr : Nat) : Nat → Nat → (Nat → Int) → (Nat → Int)
  | 0, _, m => m
  | n + 1, k, m => nwL rc t fr n (k + 1) (updI m (265 + 14 * t + (k - fr)) (rc k))
def namesM (m rc : Nat → Int) (t fr to : Nat) : Nat → Int := nwL rc t fr (to - fr) fr (updI m (261 + 14 * t) ((to : Int) - fr))
def takesM (m rc : Nat → Int) (N : Nat) (o : Int) (fr to : Nat) (p e : Int) : Nat → Int :=
  updI (updI (updI (namesM (updI (updI (updI (updI (updI m 1 (N + 1)) (258 + 14 * N) 0) (259 + 14 * N) o) 6 (m 6 + 1)) (260 + 14 * N) (m 6 + 1)) rc N fr to) (262 + 14 * N) p) (263 + 14 * N) e) (264 + 14 * N) (-5)
def gathersM (m : Nat → Int) (sink f t : Int) : Nat → Int :=
  if sink < 0 then updI (updI (updI m (2688 + 2 * m 5).toNat f) (2689 + 2 * m 5).toNat t) 5 (m 5 + 1)
  else updI (updI (updI (updI m (2328 + 3 * m 4).toNat sink) (2329 + 3 * m 4).toNat f) (2330 + 3 * m 4).toNat t) 4 (m 4 + 1)
section mg_73
/-- how the name of a thing stands to bytes of a row -/
def agL (m rc : Nat → Int) (t fr : Nat) (own many : Int) : Nat → Nat → Int
  | 0, _ => own - many
  | n + 1, k => if m (265 + 14 * t + k) - rc (fr + k) = 0 then agL m rc t fr own many n (k + 1) else m (265 + 14 * t + k) - rc (fr + k)
def agN (own many : Int) : Nat := if own ≤ many then own.toNat else many.toNat
def agV (m rc : Nat → Int) (t fr : Nat) (many : Int) : Int := agL m rc t fr (m (261 + 14 * t)) many (agN (m (261 + 14 * t)) many) 0
end mg_73

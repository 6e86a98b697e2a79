abbrev dgP (c : Int) : Prop := 48 ≤ c ∧ c ≤ 57
def spS (pool : Nat → Int) (to : Nat) : Nat → Nat → Bool → (Nat → Int) → Nat → (Nat → Int) × Nat
  | 0, _, _, pap, w => (pap, w)
  | n + 1, p, b, pap, w => if pool p = 45 ∧ numAt pool 20 p = 0 then spS pool to n (p + 1) b pap w else if pool p = 48 ∧ b = false ∧ p + 1 < to ∧ dgP (pool (p + 1)) then spS pool to n (p + 1) false pap w else spS pool to n (p + 1) (decide (dgP (pool p))) (updI pap w (pool p)) (w + 1)
theorem spS_w {pool : Nat → Int} {to : Nat} : ∀ (n p : Nat) (b : Bool) (pap : Nat → Int) (w : Nat), (spS pool to n p b pap w).2 ≤ w + n
  | 0, _, _, _, w => Nat.le_refl _
  | n + 1, p, b, pap, w => by
    unfold spS
    split
    · have := spS_w (pool := pool) (to := to) n (p + 1) b pap w; omega
    · split
      · have := spS_w (pool := pool) (to := to) n (p + 1) false pap w; omega
      · have := spS_w (pool := pool) (to := to) n (p + 1) (decide (dgP (pool p))) (updI pap w (pool p)) (w + 1); omega
def minOk (pool : Nat → Int) (fr to : Nat) : Prop := ∀ p, fr ≤ p → p < to → pool p = 45 → stopsBy pool 20 (p + 1) ∧ InR (numAt pool 20 p)

/-! ===== the reference: PLAN, spelling ===== -/
def eaI (m : Nat → Int) (s st : Int) : Int := eaV m (m 1).toNat (m 0).toNat s st
theorem eaI_r {m : Nat → Int} {s st : Int} : -5 ≤ eaI m s st ∧ eaI m s st ≤ 159 := eaV_r
def plLR (pl : Int → (Nat → Int) → Nat → (Nat → Int) → Nat → Prop) (m : Nat → Int) (s : Int) : Nat → Int → (Nat → Int) → Nat → (Nat → Int) → Nat → Prop
  | 0, e, p, k, p', k' => e < 0 ∧ p' = p ∧ k' = k
  | j + 1, e, p, k, p', k' => (e < 0 ∧ p' = p ∧ k' = k) ∨ ((0 ≤ e ∧ e < 100) ∧ k < 90 ∧ plLR pl m s j (eaI m s (stampI m e)) (updI p k e) (k + 1) p' k') ∨ (100 ≤ e ∧ ∃ p1 k1, pl (e - 100) p k p1 k1 ∧ plLR pl m s j (eaI m s (stampI m e)) p1 k1 p' k')
/-- what plansOf writes, from a row and how many stand there -/
def plR (m : Nat → Int) : Nat → Int → (Nat → Int) → Nat → (Nat → Int) → Nat → Prop
  | 0, _, _, _, _, _ => False
  | n + 1, s, p, k, p', k' => ∃ j, plLR (plR m n) m s j (eaI m s (m 6 + 1)) p k p' k'
def planV (p : Nat → Int) (k : Nat) (i : Int) : Int := if -1 ≤ i ∧ i ≤ (k : Int) - 1 then (if i < 0 then (k : Int) else p i.toNat) else -1
abbrev dgP (c : Int) : Prop := 48 ≤ c ∧ c ≤ 57
def spS (pool : Nat → Int) (to : Nat) : Nat → Nat → Bool → (Nat → Int) → Nat → (Nat → Int) × Nat
  | 0, _, _, pap, w => (pap, w)
  | n + 1, p, b, pap, w => if pool p = 45 ∧ numAt pool 20 p = 0 then spS pool to n (p + 1) b pap w else if pool p = 48 ∧ b = false ∧ p + 1 < to ∧ dgP (pool (p + 1)) then spS pool to n (p + 1) false pap w else spS pool to n (p + 1) (decide (dgP (pool p))) (updI pap w (pool p)) (w + 1)
theorem spS_w {pool : Nat → Int} {to : Nat} : ∀ (n p : Nat) (b : Bool) (pap : Nat → Int) (w : Nat), (spS pool to n p b pap w).2 ≤ w + n
  | 0, _, _, _, w => Nat.le_refl _
  | n + 1, p, b, pap, w => by
    unfold spS
    split
    · have := spS_w (pool := pool) (to := to) n (p + 1) b pap w; omega
    · split
      · have := spS_w (pool := pool) (to := to) n (p + 1) false pap w; omega
      · have := spS_w (pool := pool) (to := to) n (p + 1) (decide (dgP (pool p))) (updI pap w (pool p)) (w + 1); omega
def minOk (pool : Nat → Int) (fr to : Nat) : Prop := ∀ p, fr ≤ p → p < to → pool p = 45 → stopsBy pool 20 (p + 1) ∧ InR (numAt pool 20 p)
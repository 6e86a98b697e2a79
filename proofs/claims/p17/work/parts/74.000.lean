/-! ===== the reference: PLAN, spelling ===== -/
def eaI (m : Nat → Int) (s st : Int) : Int := eaV m (m 1).toNat (m 0).toNat s st
theorem eaI_r {m : Nat → Int} {s st : Int} : -5 ≤ eaI m s st ∧ eaI m s st ≤ 159 := eaV_r
def plLR (pl : Int → (Nat → Int) → Nat → (Nat → Int) → Nat → Prop) (m : Nat → Int) (s : Int) : Nat → Int → (Nat → Int) → Nat → (Nat → Int) → Nat → Prop
  | 0, e, p, k, p', k' => e < 0 ∧ p' = p ∧ k' = k
  | j + 1, e, p, k, p', k' => (e < 0 ∧ p' = p ∧ k' = k) ∨ ((0 ≤ e ∧ e < 100) ∧ k < 90 ∧ plLR pl m s j (eaI m s (stampI m e)) (updI p k e) (k + 1) p' k') ∨ (100 ≤ e ∧ ∃ p1 k1, pl (e - 100) p k p1 k1 ∧ plLR pl m s j (eaI m s (stampI m e)) p1 k1 p' k')
/-- what plansOf writes, from a row and how many stand there -/
def plR (m : Nat → Int) : Nat → Int → (Nat → Int) → Nat → (Nat → Int) → Nat → Prop
  | 0, _, _, _, _, _ => False
  | n + 1, s, p, k, p', k' => ∃ j, plLR (plR m n) m s j (eaI m s (m 6 + 1)) p k p' k'

section mg_a0
end mg_a0
section mg_a1
/-! ===== a step is done: the class beside the reference ===== -/
theorem brL_st {pool : Nat → Int} : ∀ (n k p : Nat) (u : Int), brStop pool n p u → n ≤ k → brL pool (k + 1) p u = brL pool (n + 1) p u
  | 0, k, p, u, h, _ => by
    have h' : ¬ 0 < u := h
    unfold brL
    rw [if_neg h', if_neg h']
  | n + 1, 0, p, u, _, hk => by omega
  | n + 1, k + 1, p, u, h, hk => by
    by_cases c : 0 < u
    · have h' : brStop pool n (p + 1) (u + brk (pool p)) := h c
      have e1 : brL pool (k + 1 + 1) p u = brL pool (k + 1) (p + 1) (u + brk (pool p)) := by
        show (if 0 < u then brL pool (k + 1) (p + 1) (u + brk (pool p)) else p) = _
        rw [if_pos c]
      have e2 : brL pool (n + 1 + 1) p u = brL pool (n + 1) (p + 1) (u + brk (pool p)) := by
        show (if 0 < u then brL pool (n + 1) (p + 1) (u + brk (pool p)) else p) = _
        rw [if_pos c]
      rw [e1, e2]
      exact brL_st n k (p + 1) _ h' (by omega)
    · have e1 : brL pool (k + 1 + 1) p u = p := by
        show (if 0 < u then brL pool (k + 1) (p + 1) (u + brk (pool p)) else p) = _
        rw [if_neg c]
      have e2 : brL pool (n + 1 + 1) p u = p := by
        show (if 0 < u then brL pool (n + 1) (p + 1) (u + brk (pool p)) else p) = _
        rw [if_neg c]
      rw [e1, e2]
/-- the braces end where they end -/
theorem ftF_v {S : Nat → Option mO} {pool : Nat → Int} {n k b hi q r : Nat} (hq : pool q = 123) (hL : stL S pool k false 0 b hi (q + 1) r) (hr : pool r = 125) (hb : brStop pool n (q + 1) 1) : ftF pool n q = ((q : Int) + 1, (r : Int)) := by
  have sk := stsC_skip k _ _ (stL_tC k 0 b hi (q + 1) r hL)
  obtain ⟨b1, b2⟩ := sk.br (n := n + (r - (q + 1) + 1)) hr (by omega)
  unfold ftF
  rw [if_pos hq, ← brL_st n (n + (r - (q + 1) + 1)) (q + 1) 1 hb (by omega), b1]
  congr 1; omega
/-- what steps leave alone -/
def KPs (c c' : Nat → Int) (g g' : Nat → Option Nat) : Prop := (∀ u, g' (2 * u + 1) = g (2 * u + 1)) ∧ (∀ j, 180 ≤ j → g' j = g j) ∧ (∀ q, 488 ≤ q → (∀ t : Nat, q ≠ 496 + 9 * t) → c' q = c q) ∧ c' 3 = c 3 ∧ c' 4 = c 4
theorem KPs.rf {c : Nat → Int} {g : Nat → Option Nat} : KPs c c g g := ⟨fun _ => rfl, fun _ _ => rfl, fun _ _ _ => rfl, rfl, rfl⟩
def PFO (pool : Nat → Int) (S : Nat → Option mO) (cl : (Nat → Int) → Nat → (Nat → Int) → Prop) (r : Nat) (b z : Int) (f c : Nat → Int) (C : Nat → Nat → Int) (nm : Nat → Int64) (g : Nat → Option Nat) (h : mH) (m m' : Nat → Int) (fl : Int) (v : Option Value) (h' : mH) : Prop :=
  v = some (.int (J fl)) ∧ ((¬ fl = 0 ∧ m' = m ∧ h' = h) ∨ (fl = 0 ∧ ((∃ c' C' nm' g', isR h' r b z f c' C' nm' g' ∧ Same (rBlk r) h h' ∧ CR m' pool S c' C' nm' g' ∧ KPs c c' g g') ∨
    (∃ q : Nat, (q : Int) < m 1 ∧ m (258 + 14 * q) = 0 ∧ cl m q m' ∧ isR h' r b (z + 1) (updI f z.toNat (q : Int)) (updI c (32 + 3 * q) 2) C nm (btG g q) ∧ Same (rBlk r) h h'))))
def SR (m : Nat → Int) : Prop := ∀ a : Nat, (a : Int) < m 0 → 0 ≤ m (18 + 4 * a) ∧ m (18 + 4 * a) ≤ 2
section PFM
variable {G : mG} {l : Launch} {r : Nat} {b z : Int} {f c : Nat → Int} {C : Nat → Nat → Int} {nm : Nat → Int64} {g : Nat → Option Nat} {h : mH} {pool m m' : Nat → Int} {S : Nat → Option mO} {B : Int} {cl : (Nat → Int) → Nat → (Nat → Int) → Prop}
end PFM
end mg_a1

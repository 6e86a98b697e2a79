section mg_25
end mg_25
section mg_26
/-! ===== contracts of the reference: rows of steps, whole texts ===== -/
def stepsL (sr : Nat → Int) (len : Int) (st : PS → Bool × PS) : Nat → Int → Bool × PS → (Bool × PS) × Int
  | 0, n, r => (r, n)
  | k + 1, n, r => if r.1 = true ∧ hereF sr len r.2.1 = 59 then stepsL sr len st k (n + 1) (st (advF r.2)) else (r, n)
def setN (z : (Bool × PS) × Int) : Bool × PS := (z.1.1, (z.1.2.1, z.1.2.2.1, z.1.2.2.2.1, z.2, z.1.2.2.2.2.2))
def stepsR (sr : Nat → Int) (len : Int) (st : PS → Bool × PS) (q : PS) : Bool × PS := setN (stepsL sr len st (len.toNat + 1) 1 (st q))
theorem setN_ok {len : Int} {z : (Bool × PS) × Int} (h : psOk len z.1.2) : psOk len (setN z).2 := h
theorem stepsL_p {sr : Nat → Int} {len : Int} {st : PS → Bool × PS} (hs : psUp len st) : ∀ (k : Nat) (n : Int) (r : Bool × PS), psOk len r.2 → psOk len (stepsL sr len st k n r).1.2 ∧ r.2.1 ≤ (stepsL sr len st k n r).1.2.1
  | 0, n, r, h => ⟨h, Int.le_refl _⟩
  | k + 1, n, r, h => by
    unfold stepsL
    split
    · rename_i c
      have hl := here_lt (sr := sr) (len := len) (a := r.2.1) (by omega)
      have h1 := adv_ok h hl
      obtain ⟨a, b⟩ := hs _ h1
      obtain ⟨c1, c2⟩ := stepsL_p hs k (n + 1) _ a
      exact ⟨c1, Int.le_trans (Int.le_trans adv_up b) c2⟩
    · exact ⟨h, Int.le_refl _⟩
theorem stepsR_p {sr : Nat → Int} {len : Int} {st : PS → Bool × PS} (hs : psUp len st) : psUp len (stepsR sr len st) := by
  intro q hq
  obtain ⟨a, b⟩ := hs q hq
  obtain ⟨c, d⟩ := stepsL_p (sr := sr) hs (len.toNat + 1) 1 (st q) a
  exact ⟨setN_ok c, Int.le_trans b d⟩
end mg_26

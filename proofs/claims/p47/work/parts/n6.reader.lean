/-! ===== the law's texts are read to their ends ===== -/
section N6
variable {sr : Nat → Int} {len : Int}
/-- read, on to p, with so many ( open -/
def OKR (r : Bool × PS) (p : Nat) (o : Int) : Prop := r.1 = true ∧ r.2.1 = p ∧ r.2.2.2.2.2 = o
theorem OKR.and {r : Bool × PS} {f : PS → Bool × PS} {p p' : Nat} {o o' : Int} (h : OKR r p o) (k : ∀ q : PS, q.1 = p → q.2.2.2.2 = o → OKR (f q) p' o') : OKR (andR r f) p' o' := by
  rw [andR_t h.1]
  exact k _ h.2.1 h.2.2
theorem gR_k {q : PS} {p : Nat} {o c : Int} (hq : q.1 = p) (ho : q.2.2.2.2 = o) (h : hereF sr len p = c) : OKR (gR sr len c q) (p + 1) o := by
  unfold gR signF
  rw [hq, h, decide_eq_true rfl, if_pos rfl]
  exact ⟨rfl, by show q.1 + 1 = _; rw [hq]; omega, ho⟩
theorem numL_no {n : Nat} {q : PS} (h : ¬ (48 ≤ hereF sr len q.1 ∧ hereF sr len q.1 ≤ 57)) : numL sr len n q = q := by
  cases n with
  | zero => rfl
  | succ n => unfold numL; rw [if_neg h]
theorem numL_go {n : Nat} {q : PS} (h : 48 ≤ hereF sr len q.1 ∧ hereF sr len q.1 ≤ 57) : numL sr len (n + 1) q = numL sr len n (q.1 + 1, q.2.1, 10 * q.2.2.1 + hereF sr len q.1 - 48, q.2.2.2) := by
  conv => lhs; unfold numL
  rw [if_pos h]
/-- one figure, and no further one, or no room for it -/
theorem num1 {n : Nat} {l m : Int} {q : PS} {p : Nat} {o : Int} (hn : 1 ≤ n) (hq : q.1 = p) (ho : q.2.2.2.2 = o) (h : 48 ≤ hereF sr len p ∧ hereF sr len p ≤ 57) (h2 : n = 1 ∨ ¬ (48 ≤ hereF sr len ((p + 1 : Nat) : Int) ∧ hereF sr len ((p + 1 : Nat) : Int) ≤ 57)) (hl : l ≤ hereF sr len p - 48 ∧ hereF sr len p - 48 ≤ m) : OKR (nR sr len n l m q) (p + 1) o := by
  obtain ⟨k, rfl⟩ : ∃ k, n = k + 1 := ⟨n - 1, by omega⟩
  have e : numL sr len (k + 1) (q.1, q.2.1, 0, q.2.2.2) = (q.1 + 1, q.2.1, 10 * 0 + hereF sr len q.1 - 48, q.2.2.2) := by
    rw [numL_go (q := (q.1, q.2.1, 0, q.2.2.2)) (by show 48 ≤ hereF sr len q.1 ∧ hereF sr len q.1 ≤ 57; rw [hq]; exact h)]
    rcases h2 with h2 | h2
    · obtain rfl : k = 0 := by omega
      rfl
    · exact numL_no (by show ¬ (48 ≤ hereF sr len (q.1 + 1) ∧ hereF sr len (q.1 + 1) ≤ 57); rw [hq]; exact h2)
  have hb : numberB sr len (k + 1) l m q := by
    unfold numberB
    rw [e, hq]
    exact ⟨h, by show l ≤ 10 * 0 + hereF sr len p - 48 ∧ 10 * 0 + hereF sr len p - 48 ≤ m; omega⟩
  unfold nR
  rw [decide_eq_true hb]
  refine ⟨rfl, ?_, ?_⟩
  · show (numberF sr len (k + 1) l m q).1 = _
    unfold numberF
    rw [if_pos hb.1, e]
    unfold finF
    have hb2 := hb.2
    rw [e] at hb2
    rw [if_pos hb2]
    show q.1 + 1 = _
    rw [hq]; omega
  · show (numberF sr len (k + 1) l m q).2.2.2.2 = _
    unfold numberF
    rw [if_pos hb.1, e]
    unfold finF
    have hb2 := hb.2
    rw [e] at hb2
    rw [if_pos hb2]
    exact ho
/-- two figures -/
theorem num2 {l m : Int} {q : PS} {p : Nat} {o : Int} (hq : q.1 = p) (ho : q.2.2.2.2 = o) (h : 48 ≤ hereF sr len p ∧ hereF sr len p ≤ 57) (h2 : 48 ≤ hereF sr len ((p + 1 : Nat) : Int) ∧ hereF sr len ((p + 1 : Nat) : Int) ≤ 57) (hl : l ≤ 10 * (hereF sr len p - 48) + hereF sr len ((p + 1 : Nat) : Int) - 48 ∧ 10 * (hereF sr len p - 48) + hereF sr len ((p + 1 : Nat) : Int) - 48 ≤ m) : OKR (nR sr len 2 l m q) (p + 2) o := by
  have e1 : q.1 + 1 = ((p + 1 : Nat) : Int) := by rw [hq]; omega
  have e : numL sr len 2 (q.1, q.2.1, 0, q.2.2.2) = (q.1 + 1 + 1, q.2.1, 10 * (10 * 0 + hereF sr len q.1 - 48) + hereF sr len (q.1 + 1) - 48, q.2.2.2) := by
    rw [numL_go (q := (q.1, q.2.1, 0, q.2.2.2)) (by show 48 ≤ hereF sr len q.1 ∧ hereF sr len q.1 ≤ 57; rw [hq]; exact h)]
    rw [numL_go (q := (q.1 + 1, q.2.1, 10 * 0 + hereF sr len q.1 - 48, q.2.2.2)) (by show 48 ≤ hereF sr len (q.1 + 1) ∧ hereF sr len (q.1 + 1) ≤ 57; rw [e1]; exact h2)]
    rfl
  have hb : numberB sr len 2 l m q := by
    unfold numberB
    rw [e, e1, hq]
    exact ⟨h, by show l ≤ 10 * (10 * 0 + hereF sr len p - 48) + hereF sr len ((p + 1 : Nat) : Int) - 48 ∧ 10 * (10 * 0 + hereF sr len p - 48) + hereF sr len ((p + 1 : Nat) : Int) - 48 ≤ m; omega⟩
  unfold nR
  rw [decide_eq_true hb]
  refine ⟨rfl, ?_, ?_⟩
  · show (numberF sr len 2 l m q).1 = _
    unfold numberF
    rw [if_pos hb.1, e]
    unfold finF
    have hb2 := hb.2
    rw [e] at hb2
    rw [if_pos hb2]
    show q.1 + 1 + 1 = _
    rw [hq]; omega
  · show (numberF sr len 2 l m q).2.2.2.2 = _
    unfold numberF
    rw [if_pos hb.1, e]
    unfold finF
    have hb2 := hb.2
    rw [e] at hb2
    rw [if_pos hb2]
    exact ho
theorem val1 {q : PS} {p : Nat} {o : Int} (hq : q.1 = p) (ho : q.2.2.2.2 = o) (h : 48 ≤ hereF sr len p ∧ hereF sr len p ≤ 57) (h2 : ¬ (48 ≤ hereF sr len ((p + 1 : Nat) : Int) ∧ hereF sr len ((p + 1 : Nat) : Int) ≤ 57)) : OKR (vR sr len q) (p + 1) o := by
  have e : minusF sr len q = q := by
    unfold minusF
    rw [hq, b01_f (by omega), Int.add_zero, ← hq]
  have z := num1 (sr := sr) (len := len) (n := 5) (l := 0) (m := 99999) (by omega) hq ho h (Or.inr h2) (by omega)
  unfold nR at z
  unfold vR signedB signedF
  rw [e]
  exact z
theorem nameL_no {n : Nat} {q : PS} (h : ¬ (97 ≤ hereF sr len q.1 ∧ hereF sr len q.1 ≤ 122)) : nameL sr len n q = q := by
  cases n with
  | zero => rfl
  | succ n => unfold nameL; rw [if_neg h]
theorem nameL_go {n : Nat} {q : PS} (h : 97 ≤ hereF sr len q.1 ∧ hereF sr len q.1 ≤ 122) : nameL sr len (n + 1) q = nameL sr len n (advF q) := by
  conv => lhs; unfold nameL
  rw [if_pos h]
/-- a name of two letters -/
theorem name2 {q : PS} {p : Nat} {o : Int} (hq : q.1 = p) (ho : q.2.2.2.2 = o) (h : 97 ≤ hereF sr len p ∧ hereF sr len p ≤ 122) (h2 : 97 ≤ hereF sr len ((p + 1 : Nat) : Int) ∧ hereF sr len ((p + 1 : Nat) : Int) ≤ 122) (h3 : ¬ (97 ≤ hereF sr len ((p + 2 : Nat) : Int) ∧ hereF sr len ((p + 2 : Nat) : Int) ≤ 122)) : nameB sr len q ∧ (nameF sr len q).1 = ((p + 2 : Nat) : Int) ∧ (nameF sr len q).2.2.2.2 = o := by
  have e1 : q.1 + 1 = ((p + 1 : Nat) : Int) := by rw [hq]; omega
  have e2 : q.1 + 1 + 1 = ((p + 2 : Nat) : Int) := by rw [hq]; omega
  have hb : nameB sr len q := by unfold nameB; rw [hq]; exact h
  have e : nameL sr len 7 q = advF (advF q) := by
    rw [nameL_go hb, nameL_go (q := advF q) (by show 97 ≤ hereF sr len (q.1 + 1) ∧ hereF sr len (q.1 + 1) ≤ 122; rw [e1]; exact h2)]
    exact nameL_no (by show ¬ (97 ≤ hereF sr len (q.1 + 1 + 1) ∧ hereF sr len (q.1 + 1 + 1) ≤ 122); rw [e2]; exact h3)
  refine ⟨hb, ?_, ?_⟩
  · unfold nameF; rw [if_pos hb, e]; exact e2
  · unfold nameF; rw [if_pos hb, e]; exact ho
theorem aR_k {q : PS} {p : Nat} {o : Int} (hq : q.1 = p) (ho : q.2.2.2.2 = o) (h : 97 ≤ hereF sr len p ∧ hereF sr len p ≤ 122) (h2 : 97 ≤ hereF sr len ((p + 1 : Nat) : Int) ∧ hereF sr len ((p + 1 : Nat) : Int) ≤ 122) (h3 : ¬ (97 ≤ hereF sr len ((p + 2 : Nat) : Int) ∧ hereF sr len ((p + 2 : Nat) : Int) ≤ 122)) : OKR (aR sr len q) (p + 2) o := by
  obtain ⟨a, b, c⟩ := name2 hq ho h h2 h3
  unfold aR
  rw [decide_eq_true a]
  exact ⟨rfl, b, c⟩
/-- a text lies at a place -/
def ATX (sr : Nat → Int) (len : Int) (p : Nat) (t : List Int) : Prop := ∀ j, j < t.length → hereF sr len ((p + j : Nat) : Int) = t.getD j 0
theorem ATX.l {p : Nat} {t u : List Int} (h : ATX sr len p (t ++ u)) : ATX sr len p t := fun j hj => by
  rw [h j (by rw [List.length_append]; omega), List.getD_eq_getElem?_getD, List.getD_eq_getElem?_getD, List.getElem?_append_left hj]
theorem ATX.r {p : Nat} {t u : List Int} (h : ATX sr len p (t ++ u)) : ATX sr len (p + t.length) u := fun j hj => by
  rw [show p + t.length + j = p + (t.length + j) by omega, h (t.length + j) (by rw [List.length_append]; omega), List.getD_eq_getElem?_getD, List.getD_eq_getElem?_getD, List.getElem?_append_right (by omega), show t.length + j - t.length = j by omega]
/-- what may stand behind a step's text -/
def ENDC (c : Int) : Prop := c = 59 ∨ c = -1 ∨ c = 125
theorem st_open {take inner : PS → Bool × PS} {it bh : Bool} {q : PS} {p : Nat} {o c : Int} (hq : q.1 = p) (ho : q.2.2.2.2 = o) (h : hereF sr len p = c) (hs : stepOk c it bh q) {p' : Nat} {o' : Int} (k : ∀ q' : PS, q'.1 = ((p + 1 : Nat) : Int) → q'.2.2.2.2 = o → OKR (stepG sr len take inner c q') p' o') : OKR (stepR sr len take inner it bh q) p' o' := by
  unfold stepR
  rw [hq, h, if_pos hs]
  exact k _ (by show q.1 + 1 = _; rw [hq]; omega) ho
/-- +n=v of one figure each -/
theorem plus_k {take inner : PS → Bool × PS} {it bh : Bool} {q : PS} {p : Nat} {o a b : Int} (hq : q.1 = p) (ho : q.2.2.2.2 = o) (h : ATX sr len p [43, a, 61, b]) (ha : 48 ≤ a ∧ a ≤ 55) (hb : 48 ≤ b ∧ b ≤ 57) (he : ENDC (hereF sr len ((p + 4 : Nat) : Int))) : OKR (stepR sr len take inner it bh q) (p + 4) o := by
  have h0 := h 0 (Nat.le_of_ble_eq_true rfl)
  have h1 := h 1 (Nat.le_of_ble_eq_true rfl)
  have h2 := h 2 (Nat.le_of_ble_eq_true rfl)
  have h3 := h 3 (Nat.le_of_ble_eq_true rfl)
  have e0 : hereF sr len (p : Int) = 43 := h0
  have e1 : hereF sr len ((p + 1 : Nat) : Int) = a := h1
  have e2 : hereF sr len ((p + 2 : Nat) : Int) = 61 := h2
  have e3 : hereF sr len ((p + 3 : Nat) : Int) = b := h3
  refine st_open hq ho e0 (Or.inl rfl) (fun q1 k1 k2 => ?_)
  unfold stepG
  rw [if_pos rfl]
  refine OKR.and (OKR.and (num1 (p := p + 1) (Nat.le_refl 1) k1 k2 (by omega) (Or.inl rfl) (by omega)) (fun q2 j1 j2 => gR_k j1 j2 e2)) (fun q3 j1 j2 => ?_)
  exact val1 (p := p + 3) j1 j2 (by omega) (by show ¬ (48 ≤ hereF sr len ((p + 4 : Nat) : Int) ∧ hereF sr len ((p + 4 : Nat) : Int) ≤ 57); unfold ENDC at he; omega)
theorem dg_at {p : Nat} {i : Int} (hi : 0 ≤ i ∧ i < 100) (h : ATX sr len p (dg i)) (he : ENDC (hereF sr len ((p + (dg i).length : Nat) : Int))) : (i < 10 ∧ (dg i).length = 1 ∧ hereF sr len (p : Int) = 48 + i ∧ ENDC (hereF sr len ((p + 1 : Nat) : Int))) ∨ (10 ≤ i ∧ (dg i).length = 2 ∧ hereF sr len (p : Int) = 48 + i / 10 ∧ hereF sr len ((p + 1 : Nat) : Int) = 48 + i % 10 ∧ ENDC (hereF sr len ((p + 2 : Nat) : Int))) := by
  by_cases c : i < 10
  · have e : dg i = [48 + i] := by unfold dg; rw [if_pos c]
    rw [e] at h he ⊢
    exact Or.inl ⟨c, rfl, h 0 (Nat.le_of_ble_eq_true rfl), he⟩
  · have e : dg i = [48 + i / 10, 48 + i % 10] := by unfold dg; rw [if_neg c]
    rw [e] at h he ⊢
    exact Or.inr ⟨by omega, rfl, h 0 (by show 0 < 2; decide), h 1 (by show 1 < 2; decide), he⟩
theorem stepN_S {n : Nat} {w : Int} {it bh : Bool} {q : PS} : stepN sr len (n + 1) w it bh q = stepR sr len (takeG sr len (stepsR sr len (stepN sr len n (w + 1) false false)) w) (stepN sr len n w false true) it bh q := rfl
/-- rows of steps: one, and what stands behind it -/
theorem stepsL_end {st : PS → Bool × PS} {k : Nat} {n : Int} {r : Bool × PS} {p : Nat} {o : Int} (h : OKR r p o) (he : ¬ hereF sr len (p : Int) = 59) : OKR (stepsL sr len st k n r).1 p o := by
  cases k with
  | zero => exact h
  | succ k =>
    unfold stepsL
    rw [if_neg (fun z => he (by rw [← h.2.1]; exact z.2))]
    exact h
theorem stepsL_on {st : PS → Bool × PS} {k : Nat} {n : Int} {r : Bool × PS} {p p' : Nat} {o o' : Int} (h : OKR r p o) (he : hereF sr len (p : Int) = 59) (K : ∀ q : PS, q.1 = ((p + 1 : Nat) : Int) → q.2.2.2.2 = o → OKR (stepsL sr len st k (n + 1) (st q)).1 p' o') : OKR (stepsL sr len st (k + 1) n r).1 p' o' := by
  unfold stepsL
  rw [if_pos ⟨h.1, by rw [h.2.1]; exact he⟩]
  exact K _ (by show r.2.1 + 1 = _; rw [h.2.1]; omega) h.2.2
theorem setN_k {z : (Bool × PS) × Int} {p : Nat} {o : Int} (h : OKR z.1 p o) : OKR (setN z) p o := h
theorem tx_k {n : Nat} {w : Int} (hw : w ≤ 2) {it : Bool} {q : PS} {p : Nat} {o : Int} {t : List Int} (ht : TX t) (hq : q.1 = p) (ho : q.2.2.2.2 = o) (h : ATX sr len p t) (he : ENDC (hereF sr len ((p + t.length : Nat) : Int))) : OKR (stepN sr len (n + 3) w it false q) (p + t.length) o := by
  rw [stepN_S]
  rcases ht with rfl | ⟨i, hi, rfl⟩ | ⟨k, hk, rfl⟩ | ⟨k, j, hk, hj, rfl⟩ | ⟨k, hk, rfl⟩ | rfl | ⟨j, hj, rfl⟩ | rfl
  · exact plus_k hq ho h (by omega) (by omega) he
  · have e0 : hereF sr len (p : Int) = 33 := h 0 (by rw [List.length_append]; show 0 < 1 + _; omega)
    have hd := h.r
    refine st_open hq ho e0 (Or.inr (Or.inl rfl)) (fun q1 k1 k2 => ?_)
    unfold stepG
    rw [if_neg (by decide), if_pos rfl]
    have hl : ([33] ++ dg i : List Int).length = 1 + (dg i).length := by rw [List.length_append]; rfl
    rw [hl] at he ⊢
    rw [← Nat.add_assoc] at he ⊢
    rcases dg_at (p := p + 1) ⟨by omega, by omega⟩ hd he with ⟨c, d1, d2, d3⟩ | ⟨c, d1, d2, d3, d4⟩
    · rw [d1]
      exact num1 (p := p + 1) (by omega) k1 k2 (by omega) (Or.inr (by unfold ENDC at d3; omega)) (by omega)
    · rw [d1]
      exact num2 (p := p + 1) k1 k2 (by omega) (by omega) (by omega)
  · have e0 : hereF sr len (p : Int) = 120 := h 0 (by simp [nm])
    have e1 : hereF sr len ((p + 1 : Nat) : Int) = 97 + k / 7 := h 1 (by simp [nm])
    have e2 : hereF sr len ((p + 2 : Nat) : Int) = 107 + k % 7 := h 2 (by simp [nm])
    have e3 : ENDC (hereF sr len ((p + 3 : Nat) : Int)) := he
    refine st_open hq ho e0 (Or.inr (Or.inr (Or.inr (Or.inl rfl)))) (fun q1 k1 k2 => ?_)
    unfold stepG
    rw [if_neg (by decide), if_neg (by decide), if_neg (by decide), if_pos rfl]
    exact aR_k (p := p + 1) k1 k2 (by omega) (by show 97 ≤ hereF sr len ((p + 2 : Nat) : Int) ∧ hereF sr len ((p + 2 : Nat) : Int) ≤ 122; omega) (by show ¬ (97 ≤ hereF sr len ((p + 3 : Nat) : Int) ∧ hereF sr len ((p + 3 : Nat) : Int) ≤ 122); unfold ENDC at e3; omega)
  · have e0 : hereF sr len (p : Int) = 109 := h 0 (by simp [nm])
    have e1 : hereF sr len ((p + 1 : Nat) : Int) = 97 + k / 7 := h 1 (by simp [nm])
    have e2 : hereF sr len ((p + 2 : Nat) : Int) = 107 + k % 7 := h 2 (by simp [nm])
    have e3 : hereF sr len ((p + 3 : Nat) : Int) = 62 := h 3 (by simp [nm])
    have hd := h.r
    have hl : ([109] ++ nm k ++ [62] ++ dg j : List Int).length = 4 + (dg j).length := by rw [List.length_append]; rfl
    rw [hl] at he ⊢
    rw [← Nat.add_assoc] at he ⊢
    refine st_open hq ho e0 (Or.inr (Or.inr (Or.inr (Or.inr (Or.inl rfl))))) (fun q1 k1 k2 => ?_)
    unfold stepG
    rw [if_neg (by decide), if_neg (by decide), if_neg (by decide), if_neg (by decide), if_pos rfl]
    refine OKR.and (OKR.and (aR_k (p := p + 1) k1 k2 (by omega) (by show 97 ≤ hereF sr len ((p + 2 : Nat) : Int) ∧ hereF sr len ((p + 2 : Nat) : Int) ≤ 122; omega) (by rw [show p + 1 + 2 = p + 3 by omega, e3]; omega)) (fun q2 j1 j2 => gR_k j1 j2 e3)) (fun q3 j1 j2 => ?_)
    rcases dg_at (p := p + 4) ⟨by omega, by omega⟩ hd he with ⟨c, d1, d2, d3⟩ | ⟨c, d1, d2, d3, d4⟩
    · rw [d1]
      exact num1 (p := p + 4) (by omega) j1 j2 (by omega) (Or.inr (by unfold ENDC at d3; omega)) (by omega)
    · omega
  · have e0 : hereF sr len (p : Int) = 97 := h 0 (by simp [nm])
    have e1 : hereF sr len ((p + 1 : Nat) : Int) = 97 + k / 7 := h 1 (by simp [nm])
    have e2 : hereF sr len ((p + 2 : Nat) : Int) = 107 + k % 7 := h 2 (by simp [nm])
    have e3 : hereF sr len ((p + 3 : Nat) : Int) = 123 := h 3 (by simp [nm])
    have e8 : hereF sr len ((p + 8 : Nat) : Int) = 125 := h 8 (by simp [nm])
    have hp : ATX sr len (p + 4) [43, 50, 61, 49] := fun j hj => by
      have hj4 : j < 4 := hj
      have z := h (4 + j) (by show 4 + j < 9; omega)
      rw [show p + 4 + j = p + (4 + j) by omega, z]
      match j, hj4 with
      | 0, _ => rfl
      | 1, _ => rfl
      | 2, _ => rfl
      | 3, _ => rfl
    refine st_open hq ho e0 (Or.inr (Or.inr (Or.inl rfl))) (fun q1 k1 k2 => ?_)
    unfold stepG
    rw [if_neg (by decide), if_neg (by decide), if_pos rfl]
    unfold takeG
    refine OKR.and (aR_k (p := p + 1) k1 k2 (by omega) (by show 97 ≤ hereF sr len ((p + 2 : Nat) : Int) ∧ hereF sr len ((p + 2 : Nat) : Int) ≤ 122; omega) (by rw [show p + 1 + 2 = p + 3 by omega, e3]; omega)) (fun q2 j1 j2 => ?_)
    rw [j1, show ((p + 1 + 2 : Nat) : Int) = ((p + 3 : Nat) : Int) by omega, e3, if_pos rfl, if_neg (by omega)]
    refine OKR.and (p := p + 8) (o := o) ?_ (fun q3 i1 i2 => gR_k (p := p + 8) i1 i2 e8)
    unfold stepsR
    refine setN_k (stepsL_end ?_ (by rw [e8]; decide))
    rw [stepN_S]
    exact plus_k (p := p + 4) (by show q2.1 + 1 = _; rw [j1]; omega) j2 hp (by omega) (by omega) (Or.inr (Or.inr e8))
  · have e0 : hereF sr len (p : Int) = 63 := h 0 (by decide)
    have e1 : hereF sr len ((p + 1 : Nat) : Int) = 49 := h 1 (by decide)
    have e2 : hereF sr len ((p + 2 : Nat) : Int) = 60 := h 2 (by decide)
    have e3 : hereF sr len ((p + 3 : Nat) : Int) = 57 := h 3 (by decide)
    have e4 : hereF sr len ((p + 4 : Nat) : Int) = 58 := h 4 (by decide)
    have hp : ATX sr len (p + 5) [43, 49, 61, 52] := fun j hj => by
      have hj4 : j < 4 := hj
      have z := h (5 + j) (by show 5 + j < 9; omega)
      rw [show p + 5 + j = p + (5 + j) by omega, z]
      match j, hj4 with
      | 0, _ => rfl
      | 1, _ => rfl
      | 2, _ => rfl
      | 3, _ => rfl
    refine st_open hq ho e0 (Or.inr (Or.inr (Or.inr (Or.inr (Or.inr (Or.inr (Or.inr (Or.inl ⟨rfl, rfl⟩)))))))) (fun q1 k1 k2 => ?_)
    unfold stepG
    rw [if_neg (by decide), if_neg (by decide), if_neg (by decide), if_neg (by decide), if_neg (by decide), if_neg (by decide), if_pos rfl]
    refine OKR.and (OKR.and (OKR.and (OKR.and (num1 (p := p + 1) (Nat.le_refl 1) k1 k2 (by omega) (Or.inl rfl) (by omega)) (fun q2 j1 j2 => gR_k j1 j2 e2)) (fun q3 j1 j2 => val1 (p := p + 3) j1 j2 (by omega) (by rw [show p + 3 + 1 = p + 4 by omega, e4]; omega))) (fun q4 j1 j2 => gR_k j1 j2 e4)) (fun q5 j1 j2 => ?_)
    rw [stepN_S]
    exact plus_k (p := p + 5) j1 j2 hp (by omega) (by omega) he
  · have e0 : hereF sr len (p : Int) = 107 := h 0 (by rw [List.length_append]; show 0 < 1 + _; omega)
    have hd := h.r
    have hl : ([107] ++ dg j : List Int).length = 1 + (dg j).length := by rw [List.length_append]; rfl
    rw [hl] at he ⊢
    rw [← Nat.add_assoc] at he ⊢
    refine st_open hq ho e0 (Or.inr (Or.inr (Or.inr (Or.inr (Or.inr (Or.inl rfl)))))) (fun q1 k1 k2 => ?_)
    unfold stepG
    rw [if_neg (by decide), if_neg (by decide), if_neg (by decide), if_neg (by decide), if_neg (by decide), if_pos rfl]
    rcases dg_at (p := p + 1) ⟨by omega, by omega⟩ hd he with ⟨c, d1, d2, d3⟩ | ⟨c, d1, d2, d3, d4⟩
    · rw [d1]
      exact num1 (p := p + 1) (by omega) k1 k2 (by omega) (Or.inl rfl) (by omega)
    · omega
  · have e0 : hereF sr len (p : Int) = 46 := h 0 (by decide)
    refine st_open hq ho e0 (Or.inr (Or.inr (Or.inr (Or.inr (Or.inr (Or.inr (Or.inl rfl))))))) (fun q1 k1 k2 => ?_)
    unfold stepG
    rw [if_neg (by decide), if_neg (by decide), if_neg (by decide), if_neg (by decide), if_neg (by decide), if_neg (by decide), if_neg (by decide)]
    exact ⟨rfl, k1, by show q1.2.2.2.2 + _ = _; rw [if_neg (by decide), if_neg (by decide), k2]; omega⟩
end N6

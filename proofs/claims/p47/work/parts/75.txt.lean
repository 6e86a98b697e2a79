/-! ===== the reference: take, rename, task ===== -/
def ps0 (f11 f12 : Int) : PS := (0, -1, f11, f12, 0)
theorem ps0_ok {len f11 f12 : Int} (h : 0 ≤ len) (h11 : 0 ≤ f11 ∧ f11 ≤ 99999) : psOk len (ps0 f11 f12) := ⟨Int.le_refl _, h, Int.le_refl _, by show (-1 : Int) ≤ len; omega, h11.1, h11.2, Int.le_refl _, by show (0 : Int) ≤ 0 + 90; omega⟩
/-- a text that was read must be read to its end -/
def wR (len : Int) (r : Bool × PS) : Bool × PS := if r.1 = true then wholeR len r.2 else r
theorem wholeR_ok {len : Int} {q : PS} (hq : psOk len q) : psOk len (wholeR len q).2 := by
  unfold wholeR; split
  · exact hq
  · exact fail_ok hq hq.1 hq.2.1
def bytesOk (tape : Nat → Int) : Prop := ∀ i, 0 ≤ tape i ∧ tape i ≤ 127
def renR (tape : Nat → Int) (len f11 f12 : Int) : Bool × PS := wR len (decide (nameB tape len (ps0 f11 f12)), nameF tape len (ps0 f11 f12))
def renF (m tape : Nat → Int) (t : Nat) (len f11 f12 : Int) : Int × (Nat → Int) :=
  if (renR tape len f11 f12).1 = true then (if 0 ≤ hbL m tape 0 len.toNat (m 1).toNat 0 then (-3, m) else (len, namesM m tape t 0 len.toNat)) else (-100 - (renR tape len f11 f12).2.2.1, m)
theorem nameL_d {sr : Nat → Int} {len : Int} : ∀ (n : Nat) (q : PS), (nameL sr len n q).1 ≤ q.1 + n
  | 0, q => by unfold nameL; simp
  | n + 1, q => by
    unfold nameL
    split
    · have := nameL_d (sr := sr) (len := len) n (advF q); have e : (advF q).1 = q.1 + 1 := rfl; omega
    · omega
theorem renR_7 {tape : Nat → Int} {len f11 f12 : Int} (h : (renR tape len f11 f12).1 = true) : len ≤ 7 := by
  by_cases c : nameB tape len (ps0 f11 f12)
  · have d := nameL_d (sr := tape) (len := len) 7 (ps0 f11 f12)
    have e : renR tape len f11 f12 = wholeR len (nameF tape len (ps0 f11 f12)) := by unfold renR wR; rw [if_pos (decide_eq_true c)]
    rw [e] at h
    unfold wholeR at h
    split at h
    · rename_i g
      obtain ⟨g1, -⟩ := g
      rw [show nameF tape len (ps0 f11 f12) = nameL tape len 7 (ps0 f11 f12) from if_pos c] at g1
      have e0 : (ps0 f11 f12).1 = 0 := rfl
      omega
    · cases h
  · have e : renR tape len f11 f12 = (decide (nameB tape len (ps0 f11 f12)), nameF tape len (ps0 f11 f12)) := by
      unfold renR wR
      rw [if_neg (by show ¬ (decide _ = true); rw [decide_eq_false c]; decide)]
    rw [e, decide_eq_false c] at h
    cases h
def takeF (m pool tape : Nat → Int) (a : Int) (len E : Nat) (r : Bool × PS) : Int × (Nat → Int) × (Nat → Int) :=
  if (wR len r).1 = true then (if m 1 = 90 then (-4, m, pool) else (if 0 ≤ hbL m tape 0 E (m 1).toNat 0 then (-3, m, pool) else
    (m 1, if E = len then (takesM m tape (m 1).toNat a 0 E 0 0, pool) else (takesM (updI m 8 (m 8 + (len - (E + 1) : Nat) + 1)) tape (m 1).toNat a 0 E (m 8) (m 8 + len - E - 1), pooledP pool tape (m 8).toNat (E + 1) len))))
  else (-100 - (wR len r).2.2.1, m, pool)
/-- what take() reads: whether it goes on, and how; where the name ends -/
def takeR (tape : Nat → Int) (len f11 f12 : Int) : Bool × PS := if nameB tape len (ps0 f11 f12) ∧ hereF tape len (nameF tape len (ps0 f11 f12)).1 = 61 then stepsW tape len 1 false (advF (nameF tape len (ps0 f11 f12))) else (decide (nameB tape len (ps0 f11 f12)), nameF tape len (ps0 f11 f12))
def takeE (tape : Nat → Int) (len f11 f12 : Int) : Nat := (nameF tape len (ps0 f11 f12)).1.toNat
theorem nameF_e {tape : Nat → Int} {len f11 f12 : Int} (h : 0 ≤ len) (h11 : 0 ≤ f11 ∧ f11 ≤ 99999) : (takeE tape len f11 f12 : Int) = (nameF tape len (ps0 f11 f12)).1 ∧ takeE tape len f11 f12 ≤ 7 ∧ (takeE tape len f11 f12 : Int) ≤ len := by
  have hn := name_ok (sr := tape) (ps0_ok (f11 := f11) (f12 := f12) h h11)
  have h0 := hn.1
  have h1 := hn.2.1
  have d : (nameF tape len (ps0 f11 f12)).1 ≤ 7 := by
    unfold nameF
    split
    · exact nameL_d 7 (ps0 f11 f12)
    · show (0 : Int) ≤ 7; decide
  unfold takeE
  omega
def openN (m : Nat → Int) (a : Int) : Int := if 0 ≤ a ∧ a ≤ m 0 - 1 then -3 else -1
def newTaskM (m : Nat → Int) (a b : Int) (len : Nat) : Nat → Int :=
  updI (updI (updI (updI (updI (updI (updI (opensM (updI (zrF (updI m 3 (m 3 + 1)) (1608 + 72 * (m 3).toNat) 72) 8 (m 8 + (len : Nat) + 1)) (m 0).toNat a (m 3)) (1608 + 72 * (m 3).toNat) (m 0)) (1609 + 72 * (m 3).toNat) b) (1611 + 72 * (m 3).toNat) (m 8)) (1616 + 72 * (m 3).toNat) (m 8)) (1617 + 72 * (m 3).toNat) (m 8 + len)) (1619 + 72 * (m 3).toNat) 1) (1620 + 72 * (m 3).toNat) (m 0)
def taskR (tape : Nat → Int) (len f11 f12 : Int) : Bool × PS := wR len (stepsW tape len 0 true (ps0 f11 f12))
def taskF (m pool tape : Nat → Int) (a b : Int) (len : Nat) (f11 f12 : Int) : Int × (Nat → Int) × (Nat → Int) :=
  if (taskR tape len f11 f12).1 = true then (m 3, newTaskM m a b len, pooledP pool tape (m 8).toNat 0 len) else (-100 - (taskR tape len f11 f12).2.2.1, m, pool)
def taskN (m : Nat → Int) (a b : Int) : Int := if 0 ≤ a ∧ a ≤ m 0 - 1 then (if -99 ≤ b ∧ b ≤ 99 then (if openP m a then -4 else -3) else -2) else -1
abbrev taskDo (m : Nat → Int) (a b : Int) : Prop := (0 ≤ a ∧ a ≤ m 0 - 1) ∧ (-99 ≤ b ∧ b ≤ 99) ∧ openP m a ∧ ¬ m 3 = 10 ∧ ¬ m 0 = 60
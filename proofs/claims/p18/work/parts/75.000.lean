section mg_75
/-! ===== the reference: take, rename, task ===== -/
def ps0 (f11 f12 : Int) : PS := (0, -1, f11, f12, 0)
theorem ps0_ok {len f11 f12 : Int} (h : 0 ≤ len) (h11 : 0 ≤ f11 ∧ f11 ≤ 99999) : psOk len (ps0 f11 f12) := ⟨Int.le_refl _, h, Int.le_refl _, by show (-1 : Int) ≤ len; omega, h11.1, h11.2, Int.le_refl _, by show (0 : Int) ≤ 0 + 90; omega⟩
/-- a text that was read must be read to its end -/
def wR (len : Int) (r : Bool × PS) : Bool × PS := if r.1 = true then wholeR len r.2 else r
theorem wholeR_ok {len : Int} {q : PS} (hq : psOk len q) : psOk len (wholeR len q).2 := by
  unfold wholeR; split
  · exact hq
  · exact fail_ok hq hq.1 hq.2.1
def bytesOk (tape : Nat → Int) : Prop := ∀ i, 0 ≤ tape i ∧ tape i ≤ 127
theorem isM.isMs {h : mH} {x s : Nat} {f4 f6 f8 f9 f10 f11 f12 f13 f14 f16 f18 : Int} {m kp was pool tape pln pap rwd rw : Nat → Int} (h11 : 0 ≤ f11 ∧ f11 ≤ 99999) (hB : isM h x (mFs x f4 f6 f8 f9 f10 f11 f12 f13 f14 f16 f18 s) m kp was pool tape pln pap rwd rw) : isMs h x f4 f6 f14 f16 f18 m kp was pool tape pln pap rwd rw := ⟨f8, f9, f10, f11, f12, f13, s, h11, hB⟩
def renR (tape : Nat → Int) (len f11 f12 : Int) : Bool × PS := wR len (decide (nameB tape len (ps0 f11 f12)), nameF tape len (ps0 f11 f12))
def renF (m tape : Nat → Int) (t : Nat) (len f11 f12 : Int) : Int × (Nat → Int) :=
  if (renR tape len f11 f12).1 = true then (if 0 ≤ hbL m tape 0 len.toNat (m 1).toNat 0 then (-3, m) else (len, namesM m tape t 0 len.toNat)) else (-100 - (renR tape len f11 f12).2.2.1, m)
theorem nameL_d {sr : Nat → Int} {len : Int} : ∀ (n : Nat) (q : PS), (nameL sr len n q).1 ≤ q.1 + n
  | 0, q => by unfold nameL; simp
  | n + 1, q => by
    unfold nameL
    split
    · have := nameL_d (sr := sr) (len := len) n (advF q); have e : (advF q).1 = q.1 + 1 := rfl; omega
    · omega
theorem renR_7 {tape : Nat → Int} {len f11 f12 : Int} (h : (renR tape len f11 f12).1 = true) : len ≤ 7 := by
  by_cases c : nameB tape len (ps0 f11 f12)
  · have d := nameL_d (sr := tape) (len := len) 7 (ps0 f11 f12)
    have e : renR tape len f11 f12 = wholeR len (nameF tape len (ps0 f11 f12)) := by unfold renR wR; rw [if_pos (decide_eq_true c)]
    rw [e] at h
    unfold wholeR at h
    split at h
    · rename_i g
      obtain ⟨g1, -⟩ := g
      rw [show nameF tape len (ps0 f11 f12) = nameL tape len 7 (ps0 f11 f12) from if_pos c] at g1
      have e0 : (ps0 f11 f12).1 = 0 := rfl
      omega
    · cases h
  · have e : renR tape len f11 f12 = (decide (nameB tape len (ps0 f11 f12)), nameF tape len (ps0 f11 f12)) := by
      unfold renR wR
      rw [if_neg (by show ¬ (decide _ = true); rw [decide_eq_false c]; decide)]
    rw [e, decide_eq_false c] at h
    cases h
end mg_75

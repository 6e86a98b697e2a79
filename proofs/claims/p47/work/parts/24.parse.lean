/-! ===== contracts of the reference: reading texts ===== -/
/-- place, fault, figure, steps, open ( -/
abbrev PS : Type := Int × Int × Int × Int × Int
def hereF (sr : Nat → Int) (len a : Int) : Int := if a < len then sr a.toNat else -1
def failF (p : Int) (q : PS) : PS := (q.1, if q.2.1 < 0 then p else q.2.1, q.2.2)
def advF (q : PS) : PS := (q.1 + 1, q.2)
def psOk (len : Int) (q : PS) : Prop := 0 ≤ q.1 ∧ q.1 ≤ len ∧ -1 ≤ q.2.1 ∧ q.2.1 ≤ len ∧ 0 ≤ q.2.2.1 ∧ q.2.2.1 ≤ 99999 ∧ 0 ≤ q.2.2.2.2 ∧ q.2.2.2.2 ≤ q.1 + 90
/-- the text that is read: which row, its bytes, its end -/
def txOk (s : Nat) (sr pool tape : Nat → Int) (len : Int) : Prop := ((s = 4 ∧ sr = tape ∧ len ≤ 120) ∨ (s = 3 ∧ sr = pool ∧ len ≤ 12342)) ∧ 0 ≤ len ∧ ∀ i, 0 ≤ sr i ∧ sr i ≤ 127
theorem here_r {s : Nat} {sr pool tape : Nat → Int} {len : Int} (h : txOk s sr pool tape len) (a : Int) : -1 ≤ hereF sr len a ∧ hereF sr len a ≤ 127 := by
  have := h.2.2 a.toNat
  unfold hereF
  split <;> omega
def isDg (c : Int) : Prop := 48 ≤ c ∧ c ≤ 57
def isLt (c : Int) : Prop := 97 ≤ c ∧ c ≤ 122
theorem here_lt {sr : Nat → Int} {len a : Int} (h : hereF sr len a ≠ -1) : a < len := by
  unfold hereF at h
  split at h
  · assumption
  · exact absurd rfl h
theorem fail_ok {len p : Int} {q : PS} (hq : psOk len q) (h0 : 0 ≤ p) (h1 : p ≤ len) : psOk len (failF p q) := by
  obtain ⟨a, b, c, d, e, f, g, i⟩ := hq
  unfold failF
  refine ⟨a, b, ?_, ?_, e, f, g, i⟩ <;> (dsimp only; split <;> omega)
theorem adv_ok {len : Int} {q : PS} (hq : psOk len q) (h1 : q.1 < len) : psOk len (advF q) := by
  obtain ⟨a, b, c, d, e, f, g, i⟩ := hq
  exact ⟨by show 0 ≤ q.1 + 1; omega, by show q.1 + 1 ≤ len; omega, c, d, e, f, g, by show q.2.2.2.2 ≤ q.1 + 1 + 90; omega⟩
def signF (sr : Nat → Int) (len c : Int) (q : PS) : PS := if hereF sr len q.1 = c then advF q else failF q.1 q
theorem sign_ok {sr : Nat → Int} {len c : Int} {q : PS} (hq : psOk len q) (hc : c ≠ -1) : psOk len (signF sr len c q) := by
  unfold signF
  split
  · rename_i h
    exact adv_ok hq (here_lt (sr := sr) (by rw [h]; exact hc))
  · exact fail_ok hq hq.1 hq.2.1
def bnd : Nat → Int
  | 0 => 99999
  | 1 => 9999
  | 2 => 999
  | 3 => 99
  | 4 => 9
  | _ => 0
theorem bnd_s : ∀ n, n < 5 → 10 * bnd (n + 1) + 9 ≤ bnd n := by decide
theorem bnd_0 : ∀ n, 0 ≤ bnd n ∧ bnd n ≤ 99999 := fun n => by unfold bnd; split <;> decide
def numL (sr : Nat → Int) (len : Int) : Nat → PS → PS
  | 0, q => q
  | n + 1, q => if 48 ≤ hereF sr len q.1 ∧ hereF sr len q.1 ≤ 57 then numL sr len n (q.1 + 1, q.2.1, 10 * q.2.2.1 + hereF sr len q.1 - 48, q.2.2.2) else q
theorem numL_ok {sr : Nat → Int} {len : Int} : ∀ (n : Nat) (q : PS), n ≤ 5 → psOk len q → q.2.2.1 ≤ bnd n → psOk len (numL sr len n q)
  | 0, q, _, hq, _ => hq
  | n + 1, q, hn, hq, hf => by
    unfold numL
    split
    · rename_i h
      have hl := here_lt (sr := sr) (len := len) (a := q.1) (by omega)
      have hb := bnd_s n (by omega)
      have h0 := bnd_0 n
      obtain ⟨a, b, c, d, e, f, g, i⟩ := hq
      refine numL_ok n _ (by omega) ⟨?_, ?_, c, d, ?_, ?_, g, ?_⟩ ?_ <;> dsimp only <;> omega
    · exact hq
def finF (b l m : Int) (q : PS) : PS := if l ≤ q.2.2.1 ∧ q.2.2.1 ≤ m then q else failF b q
def numberF (sr : Nat → Int) (len : Int) (n : Nat) (l m : Int) (q : PS) : PS := if 48 ≤ hereF sr len q.1 ∧ hereF sr len q.1 ≤ 57 then finF q.1 l m (numL sr len n (q.1, q.2.1, 0, q.2.2.2)) else failF q.1 q
abbrev numberB (sr : Nat → Int) (len : Int) (n : Nat) (l m : Int) (q : PS) : Prop := (48 ≤ hereF sr len q.1 ∧ hereF sr len q.1 ≤ 57) ∧ l ≤ (numL sr len n (q.1, q.2.1, 0, q.2.2.2)).2.2.1 ∧ (numL sr len n (q.1, q.2.1, 0, q.2.2.2)).2.2.1 ≤ m
theorem number_ok {sr : Nat → Int} {len : Int} {n : Nat} {l m : Int} {q : PS} (hn : n ≤ 5) (hq : psOk len q) : psOk len (numberF sr len n l m q) := by
  unfold numberF
  obtain ⟨a, b, c, d, e, f, g, i⟩ := id hq
  split
  · have h1 : psOk len (numL sr len n (q.1, q.2.1, 0, q.2.2.2)) := numL_ok n _ hn ⟨a, b, c, d, Int.le_refl _, (by show (0 : Int) ≤ 99999; decide), g, i⟩ (bnd_0 n).1
    unfold finF
    split
    · exact h1
    · exact fail_ok h1 a b
  · exact fail_ok hq a b
def minusF (sr : Nat → Int) (len : Int) (q : PS) : PS := (q.1 + b01 (hereF sr len q.1 = 45), q.2)
abbrev signedB (sr : Nat → Int) (len : Int) (q : PS) : Prop := numberB sr len 5 0 99999 (minusF sr len q)
def signedF (sr : Nat → Int) (len : Int) (q : PS) : PS := numberF sr len 5 0 99999 (minusF sr len q)
theorem minus_ok {sr : Nat → Int} {len : Int} {q : PS} (hq : psOk len q) : psOk len (minusF sr len q) := by
  obtain ⟨a, b, c, d, e, f, g, i⟩ := id hq
  by_cases h : hereF sr len q.1 = 45
  · have hl := here_lt (sr := sr) (len := len) (a := q.1) (by omega)
    unfold minusF
    rw [b01_t h]
    exact ⟨by show 0 ≤ q.1 + 1; omega, by show q.1 + 1 ≤ len; omega, c, d, e, f, g, by show q.2.2.2.2 ≤ q.1 + 1 + 90; omega⟩
  · unfold minusF
    rw [b01_f h]
    exact ⟨by show 0 ≤ q.1 + 0; omega, by show q.1 + 0 ≤ len; omega, c, d, e, f, g, by show q.2.2.2.2 ≤ q.1 + 0 + 90; omega⟩
theorem signed_ok {sr : Nat → Int} {len : Int} {q : PS} (hq : psOk len q) : psOk len (signedF sr len q) := number_ok (by decide) (minus_ok hq)
def nameL (sr : Nat → Int) (len : Int) : Nat → PS → PS
  | 0, q => q
  | n + 1, q => if 97 ≤ hereF sr len q.1 ∧ hereF sr len q.1 ≤ 122 then nameL sr len n (advF q) else q
abbrev nameB (sr : Nat → Int) (len : Int) (q : PS) : Prop := 97 ≤ hereF sr len q.1 ∧ hereF sr len q.1 ≤ 122
def nameF (sr : Nat → Int) (len : Int) (q : PS) : PS := if nameB sr len q then nameL sr len 7 q else failF q.1 q
theorem nameL_ok {sr : Nat → Int} {len : Int} : ∀ (n : Nat) (q : PS), psOk len q → psOk len (nameL sr len n q)
  | 0, q, hq => hq
  | n + 1, q, hq => by
    unfold nameL
    split
    · exact nameL_ok n _ (adv_ok hq (here_lt (sr := sr) (by omega)))
    · exact hq
theorem name_ok {sr : Nat → Int} {len : Int} {q : PS} (hq : psOk len q) : psOk len (nameF sr len q) := by
  unfold nameF
  split
  · exact nameL_ok 7 _ hq
  · exact fail_ok hq hq.1 hq.2.1
section mg_23
end mg_23
section mg_24
/-! ===== contracts of the reference: reading texts ===== -/
/-- place, fault, figure, steps, open ( -/
abbrev PS : Type := Int × Int × Int × Int × Int
def hereF (sr : Nat → Int) (len a : Int) : Int := if a < len then sr a.toNat else -1
def failF (p : Int) (q : PS) : PS := (q.1, if q.2.1 < 0 then p else q.2.1, q.2.2)
def advF (q : PS) : PS := (q.1 + 1, q.2)
def psOk (len : Int) (q : PS) : Prop := 0 ≤ q.1 ∧ q.1 ≤ len ∧ -1 ≤ q.2.1 ∧ q.2.1 ≤ len ∧ 0 ≤ q.2.2.1 ∧ q.2.2.1 ≤ 99999 ∧ 0 ≤ q.2.2.2.2 ∧ q.2.2.2.2 ≤ q.1 + 90
/-- the text that is read: which row, its bytes, its end -/
def txOk (s : Nat) (sr pool tape : Nat → Int) (len : Int) : Prop := ((s = 4 ∧ sr = tape ∧ len ≤ 120) ∨ (s = 3 ∧ sr = pool ∧ len ≤ 12342)) ∧ 0 ≤ len ∧ ∀ i, 0 ≤ sr i ∧ sr i ≤ 127
theorem here_r {s : Nat} {sr pool tape : Nat → Int} {len : Int} (h : txOk s sr pool tape len) (a : Int) : -1 ≤ hereF sr len a ∧ hereF sr len a ≤ 127 := by
  have := h.2.2 a.toNat
  unfold hereF
  split <;> omega
def isLt (c : Int) : Prop := 97 ≤ c ∧ c ≤ 122
end mg_24

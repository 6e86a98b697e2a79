section mg_24
def minusF (sr : Nat → Int) (len : Int) (q : PS) : PS := (q.1 + b01 (hereF sr len q.1 = 45), q.2)
abbrev signedB (sr : Nat → Int) (len : Int) (q : PS) : Prop := numberB sr len 5 0 99999 (minusF sr len q)
def signedF (sr : Nat → Int) (len : Int) (q : PS) : PS := numberF sr len 5 0 99999 (minusF sr len q)
theorem minus_ok {sr : Nat → Int} {len : Int} {q : PS} (hq : psOk len q) : psOk len (minusF sr len q) := by
  obtain ⟨a, b, c, d, e, f, g, i⟩ := id hq
  by_cases h : hereF sr len q.1 = 45
  · have hl := here_lt (sr := sr) (len := len) (a := q.1) (by omega)
    unfold minusF
    rw [b01_t h]
    exact ⟨by show 0 ≤ q.1 + 1; omega, by show q.1 + 1 ≤ len; omega, c, d, e, f, g, by show q.2.2.2.2 ≤ q.1 + 1 + 90; omega⟩
  · unfold minusF
    rw [b01_f h]
    exact ⟨by show 0 ≤ q.1 + 0; omega, by show q.1 + 0 ≤ len; omega, c, d, e, f, g, by show q.2.2.2.2 ≤ q.1 + 0 + 90; omega⟩
theorem signed_ok {sr : Nat → Int} {len : Int} {q : PS} (hq : psOk len q) : psOk len (signedF sr len q) := number_ok (by decide) (minus_ok hq)
end mg_24

section mg_24
theorem here_lt {sr : Nat → Int} {len a : Int} (h : hereF sr len a ≠ -1) : a < len := by
  unfold hereF at h
  split at h
  · assumption
  · exact absurd rfl h
theorem fail_ok {len p : Int} {q : PS} (hq : psOk len q) (h0 : 0 ≤ p) (h1 : p ≤ len) : psOk len (failF p q) := by
  obtain ⟨a, b, c, d, e, f, g, i⟩ := hq
  unfold failF
  refine ⟨a, b, ?_, ?_, e, f, g, i⟩ <;> (dsimp only; split <;> omega)
theorem adv_ok {len : Int} {q : PS} (hq : psOk len q) (h1 : q.1 < len) : psOk len (advF q) := by
  obtain ⟨a, b, c, d, e, f, g, i⟩ := hq
  exact ⟨by show 0 ≤ q.1 + 1; omega, by show q.1 + 1 ≤ len; omega, c, d, e, f, g, by show q.2.2.2.2 ≤ q.1 + 1 + 90; omega⟩
def signF (sr : Nat → Int) (len c : Int) (q : PS) : PS := if hereF sr len q.1 = c then advF q else failF q.1 q
theorem sign_ok {sr : Nat → Int} {len c : Int} {q : PS} (hq : psOk len q) (hc : c ≠ -1) : psOk len (signF sr len c q) := by
  unfold signF
  split
  · rename_i h
    exact adv_ok hq (here_lt (sr := sr) (by rw [h]; exact hc))
  · exact fail_ok hq hq.1 hq.2.1
end mg_24

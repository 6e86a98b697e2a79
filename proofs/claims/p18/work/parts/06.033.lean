section mg_24
theorem number_ok {sr : Nat → Int} {len : Int} {n : Nat} {l m : Int} {q : PS} (hn : n ≤ 5) (hq : psOk len q) : psOk len (numberF sr len n l m q) := by
  unfold numberF
  obtain ⟨a, b, c, d, e, f, g, i⟩ := id hq
  split
  · have h1 : psOk len (numL sr len n (q.1, q.2.1, 0, q.2.2.2)) := numL_ok n _ hn ⟨a, b, c, d, Int.le_refl _, (by show (0 : Int) ≤ 99999; decide), g, i⟩ (bnd_0 n).1
    unfold finF
    split
    · exact h1
    · exact fail_ok h1 a b
  · exact fail_ok hq a b
end mg_24

section mg_24
def nameL (sr : Nat → Int) (len : Int) : Nat → PS → PS
  | 0, q => q
  | n + 1, q => if 97 ≤ hereF sr len q.1 ∧ hereF sr len q.1 ≤ 122 then nameL sr len n (advF q) else q
abbrev nameB (sr : Nat → Int) (len : Int) (q : PS) : Prop := 97 ≤ hereF sr len q.1 ∧ hereF sr len q.1 ≤ 122
def nameF (sr : Nat → Int) (len : Int) (q : PS) : PS := if nameB sr len q then nameL sr len 7 q else failF q.1 q
theorem nameL_ok {sr : Nat → Int} {len : Int} : ∀ (n : Nat) (q : PS), psOk len q → psOk len (nameL sr len n q)
  | 0, q, hq => hq
  | n + 1, q, hq => by
    unfold nameL
    split
    · exact nameL_ok n _ (adv_ok hq (here_lt (sr := sr) (by omega)))
    · exact hq
theorem name_ok {sr : Nat → Int} {len : Int} {q : PS} (hq : psOk len q) : psOk len (nameF sr len q) := by
  unfold nameF
  split
  · exact nameL_ok 7 _ hq
  · exact fail_ok hq hq.1 hq.2.1
end mg_24

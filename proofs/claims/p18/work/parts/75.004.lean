section mg_75
/-- what take() reads: whether it goes on, and how; where the name ends -/
def takeR (tape : Nat → Int) (len f11 f12 : Int) : Bool × PS := if nameB tape len (ps0 f11 f12) ∧ hereF tape len (nameF tape len (ps0 f11 f12)).1 = 61 then stepsW tape len 1 false (advF (nameF tape len (ps0 f11 f12))) else (decide (nameB tape len (ps0 f11 f12)), nameF tape len (ps0 f11 f12))
def takeE (tape : Nat → Int) (len f11 f12 : Int) : Nat := (nameF tape len (ps0 f11 f12)).1.toNat
theorem nameF_e {tape : Nat → Int} {len f11 f12 : Int} (h : 0 ≤ len) (h11 : 0 ≤ f11 ∧ f11 ≤ 99999) : (takeE tape len f11 f12 : Int) = (nameF tape len (ps0 f11 f12)).1 ∧ takeE tape len f11 f12 ≤ 7 ∧ (takeE tape len f11 f12 : Int) ≤ len := by
  have hn := name_ok (sr := tape) (ps0_ok (f11 := f11) (f12 := f12) h h11)
  have h0 := hn.1
  have h1 := hn.2.1
  have d : (nameF tape len (ps0 f11 f12)).1 ≤ 7 := by
    unfold nameF
    split
    · exact nameL_d 7 (ps0 f11 f12)
    · show (0 : Int) ≤ 7; decide
  unfold takeE
  omega
def openN (m : Nat → Int) (a : Int) : Int := if 0 ≤ a ∧ a ≤ m 0 - 1 then -3 else -1
end mg_75

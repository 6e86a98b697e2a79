section mg_39
end mg_39
section mg_40
/-! ===== contracts of the reference: counter, get, youngest, entry ===== -/
/-- an int as a long -/
noncomputable def lgV (z : Int) : Value := .long (J z).toInt64
def lgNo : Value := .long (-9223372036854775808)
noncomputable def counterV (m : Nat → Int) (k : Int) : Value := if 0 ≤ k ∧ k ≤ 7 then lgV (m (10 + k).toNat) else lgNo
end mg_40

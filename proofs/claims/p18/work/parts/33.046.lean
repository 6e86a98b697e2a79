section mg_40
noncomputable def getV (rwd rw : Nat → Int) (a i : Int) : Value := if wrongV rwd a = 0 ∧ (0 ≤ i ∧ i ≤ rwd a.toNat - 1) then lgV (rw (40 * a + i).toNat) else lgNo
end mg_40

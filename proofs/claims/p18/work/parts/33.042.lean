section mg_39
def nameV (m : Nat → Int) (t i : Int) : Int := if (0 ≤ t ∧ t ≤ m 1 - 1) ∧ (-1 ≤ i ∧ i ≤ m (261 + 14 * t).toNat - 1) then (if i < 0 then m (261 + 14 * t).toNat else m (265 + 14 * t + i).toNat) else -1
def lenOk (m : Nat → Int) : Prop := ∀ t : Int, 0 ≤ t → t ≤ m 1 - 1 → 0 ≤ m (261 + 14 * t).toNat ∧ m (261 + 14 * t).toNat ≤ 7
end mg_39

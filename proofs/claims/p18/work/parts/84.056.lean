section mg_89
end mg_89
section mg_90
/-! ===== the class: a name's letters ===== -/
noncomputable def letA (y : Int64) (i : Int) : Int := ((y >>> ((J (5 * (6 - i))).toInt64 &&& 63)).toInt32 &&& J 31).toInt
theorem and31 (a : Int32) : (a &&& J 31).toInt = ((a.toBitVec.toNat % 32 : Nat) : Int) := by
  have e : J 31 = (31 : Int32) := by rw [J_def]; decide
  rw [e]
  have e2 : (a &&& (31 : Int32)).toBitVec = a.toBitVec &&& 31#32 := rfl
  have e3 : (a.toBitVec &&& 31#32).toNat = a.toBitVec.toNat % 32 := by
    rw [BitVec.toNat_and]
    exact Nat.and_two_pow_sub_one_eq_mod a.toBitVec.toNat 5
  have e4 : (a &&& (31 : Int32)).toInt = (a.toBitVec &&& 31#32).toInt := by rw [← e2]; rfl
  rw [e4, BitVec.toInt_eq_toNat_of_lt (by rw [e3]; omega), e3]
theorem letA_r (y : Int64) (i : Int) : 0 ≤ letA y i ∧ letA y i ≤ 31 := by
  unfold letA; rw [and31]; omega
noncomputable def letV (y : Int64) (i : Int) : Int := if 0 ≤ i ∧ i < 7 then (if letA y i = 0 then 0 else letA y i + 97 - 1) else 0
theorem letV_r (y : Int64) (i : Int) : 0 ≤ letV y i ∧ letV y i ≤ 127 := by
  have z := letA_r y i
  unfold letV; split
  · split <;> omega
  · omega
end mg_90

section mg_d6
end mg_d6
section mg_d7
/-! ===== the class: the tape fed, rows, on any keeper ===== -/
def rwAt (x : Nat) (i : Int) : Option Nat := if 0 ≤ i ∧ i < 4 then some (kR x i.toNat) else none
theorem rwAt_P {x : Nat} {i : Int} {v : Option Value} (h : 0 ≤ i ∧ i < 4) (q : v = some (va_rf (rwAt x i))) : v = some (.ref (kR x i.toNat)) := by rw [q]; unfold rwAt; rw [if_pos h]; rfl
theorem rwAt_N {x : Nat} {i : Int} {v : Option Value} (h : ¬ (0 ≤ i ∧ i < 4)) (q : v = some (va_rf (rwAt x i))) : v = some .null := by rw [q]; unfold rwAt; rw [if_neg h]; rfl
end mg_d7

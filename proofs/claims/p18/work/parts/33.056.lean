section mg_41
end mg_41
section mg_42
/-! ===== contracts of the reference: fault, entry, isFine, row ===== -/
def faultV (m : Nat → Int) (N : Nat) (t k w : Int) : Int := if (t = -1 ∨ (0 ≤ t ∧ t ≤ m 3 - 1)) ∧ (0 ≤ w ∧ w ≤ 1) ∧ (0 ≤ k ∧ k ≤ manyV m N t - 1) then faultAtV m N t k w else -1
theorem manyV_r {m : Nat → Int} {N : Nat} {t : Int} (hcap : N ≤ 120) (h5 : 0 ≤ m 5 ∧ m 5 ≤ 120) : 0 ≤ manyV m N t ∧ manyV m N t ≤ 121 := by
  have r4 := cnt_r (faultB m t) N
  unfold manyV
  split
  · split <;> omega
  · omega
end mg_42

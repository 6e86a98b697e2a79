section mg_94
end mg_94
section mg_95
/-! ===== the class: a world becomes another, whole ===== -/
theorem mixR_o {c c2 : Nat → Int} {lo hi q : Nat} (h : ¬ (lo ≤ q ∧ q < hi)) : mixR c c2 lo hi q = c q := by unfold mixR; rw [if_neg h]
theorem mixR_r {c c2 : Nat → Int} (hc : ∀ q, InR (c q)) (hc2 : ∀ q, InR (c2 q)) {lo hi : Nat} (q : Nat) : InR (mixR c c2 lo hi q) := by
  unfold mixR; split
  · exact hc2 q
  · exact hc q
end mg_95

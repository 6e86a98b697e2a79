section mg_9f
def btC (c : Nat → Int) (q : Nat) : Nat → Int := updI (updI (updI c 3 (c 3 + 1)) (491 + 9 * q) (c (491 + 9 * q) + 1)) (492 + 9 * q) (c 3 + 1)
theorem btC_o {c : Nat → Int} {q k : Nat} (h : k ≠ 3 ∧ k ≠ 491 + 9 * q ∧ k ≠ 492 + 9 * q) : btC c q k = c k := by
  unfold btC; rw [updI_n h.2.2, updI_n h.2.1, updI_n h.1]
end mg_9f

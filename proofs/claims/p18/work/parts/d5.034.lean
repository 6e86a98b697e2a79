section mg_f1
def lyF (f lg : Nat → Int) (b k : Nat) : Nat → Int := fun q => if b ≤ q ∧ q < b + k then lg (q - b) else f q
theorem lyF_0 (f lg : Nat → Int) (b : Nat) : lyF f lg b 0 = f := by
  funext q; unfold lyF; rw [if_neg (by omega)]
theorem lyF_s (f lg : Nat → Int) (b k : Nat) : updI (lyF f lg b k) (b + k) (lg k) = lyF f lg b (k + 1) := by
  funext q; unfold updI lyF
  by_cases h : q = b + k
  · rw [if_pos h, if_pos (by omega)]; congr 1; omega
  · rw [if_neg h]
    by_cases c : b ≤ q ∧ q < b + k
    · rw [if_pos c, if_pos (by omega)]
    · rw [if_neg c, if_neg (by omega)]
end mg_f1

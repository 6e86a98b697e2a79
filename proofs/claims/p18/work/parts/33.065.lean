section mg_43
def zrF (f : Nat → Int) (a k : Nat) : Nat → Int := fun q => if a ≤ q ∧ q < a + k then 0 else f q
theorem zrF_0 (f : Nat → Int) (a : Nat) : zrF f a 0 = f := by funext q; unfold zrF; rw [if_neg (by omega)]
theorem zrF_s (f : Nat → Int) (a k : Nat) : updI (zrF f a k) (a + k) 0 = zrF f a (k + 1) := by
  funext q
  unfold updI zrF
  by_cases h : q = a + k
  · rw [if_pos h, if_pos (by omega)]
  · rw [if_neg h]
    by_cases h2 : a ≤ q ∧ q < a + k
    · rw [if_pos h2, if_pos (by omega)]
    · rw [if_neg h2, if_neg (by omega)]
def rowV (a n : Int) : Int := if 0 ≤ a ∧ a ≤ 3 then (if n ≤ 40 then (if 0 ≤ n then 1 else -14) else -2) else -1
def rowDo (a n : Int) : Prop := (0 ≤ a ∧ a ≤ 3) ∧ 0 ≤ n ∧ n ≤ 40
end mg_43

section mg_51
def cpyF (k : Nat) (g f : Nat → Int) : Nat → Int := fun q => if q < k then g q else f q
theorem cpyF_0 (g f : Nat → Int) : cpyF 0 g f = f := by funext q; simp [cpyF]
theorem cpyF_s (k : Nat) (g f : Nat → Int) : updI (cpyF k g f) k (g k) = cpyF (k + 1) g f := by
  funext q
  unfold updI cpyF
  repeat' split
  all_goals first | rfl | (exfalso; omega) | (subst_vars; rfl)
end mg_51

section mg_51
def zerF (k : Nat) (f : Nat → Int) : Nat → Int := fun q => if q < k then 0 else f q
theorem zerF_0 (f : Nat → Int) : zerF 0 f = f := by funext q; simp [zerF]
theorem zerF_s (k : Nat) (f : Nat → Int) : updI (zerF k f) k 0 = zerF (k + 1) f := by
  funext q
  unfold updI zerF
  repeat' split
  all_goals first | rfl | (exfalso; omega)
end mg_51

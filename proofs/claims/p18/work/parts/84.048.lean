section mg_89
def pwF (c : Nat → Int) (f : Nat → Int) (F : Nat) (i k : Int) : Int := poL (b0F c i) f i k (F - b0F c i) (b0F c i)
theorem pwF_r {c : Nat → Int} {f : Nat → Int} {F : Nat} {i k : Int} : -1 ≤ pwF c f F i k ∧ (b0F c i ≤ F → pwF c f F i k ≤ F) := by
  unfold pwF
  have y := poL_r (b := b0F c i) (f := f) (i := i) (k := k) (F - b0F c i) (b0F c i)
  exact ⟨y.1, fun z => by omega⟩
end mg_89

section mg_35
def eaL (m : Nat → Int) (N C : Nat) (a st : Int) : Nat → Nat → Int → Int
  | 0, _, f => f
  | n + 1, e, f => eaL m N C a st n (e + 1) (if entryP m N C a e ∧ stampV m e < st ∧ (f < 0 ∨ stampV m f.toNat < stampV m e) then (e : Int) else f)
theorem stampV_r {m : Nat → Int} (hM : ∀ q, InR (m q)) (e : Nat) : InR (stampV m e) := by unfold stampV; split <;> exact hM _
end mg_35

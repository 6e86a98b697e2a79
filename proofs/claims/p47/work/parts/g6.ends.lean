/-! ===== what is closed, shut, and turns, on both ===== -/
theorem stR.hS {y : Nat} {h : mH} {S : Nat → Option mO} (k : stR y h S) : ∀ a o, S a = some o → hGet h a = some o := fun a o e => (k a o e).1
theorem stR.hR {x y r : Nat} {h : mH} {S : Nat → Option mO} (k : stR y h S) (hxy : x + 196 ≤ y) (hr : r = kA x 8) : ∀ a, ¬ S a = none → ¬ rBlk r a := by
  intro a e q
  cases z : S a with
  | none => exact e z
  | some o =>
    have := (k a o z).2.1
    unfold rBlk at q
    unfold kA at hr
    omega
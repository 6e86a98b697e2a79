/-! ===== calls that change a little, on both, more ===== -/
theorem isW.jC {h : mH} {w : Nat} {c : Nat → Int} {C : Nat → Nat → Int} {nm : Nat → Int64} {g : Nat → Option Nat} {f f' : Nat → Int} (k : isW h w c (updC C 0 f) nm g) (e : ∀ q, J (f q) = J (f' q)) : isW h w c (updC C 0 f') nm g := by
  obtain ⟨k0, k1, k2, k3, k4, k5, k6, k7, k8, k9⟩ := k
  refine ⟨k0, k1, k2, k3, k4, k5, fun j hj => ?_, k7, k8, k9⟩
  by_cases z : j = 0
  · subst z
    have y := k6 0 hj
    rw [updC_s] at y ⊢
    obtain ⟨y1, y2, y3⟩ := y
    refine ⟨y1, y2, ?_⟩
    rw [y3]
    congr 3
    exact congrArg (Prod.mk (iRm 0)) (funext e)
  · have y := k6 j hj
    rw [updC_n z] at y ⊢
    exact y
section RDNS
variable {G : mG} {l : Launch} {z : Int} {f : Nat → Int} {a n : Nat}
/-- a fault in what stands in a step -/
theorem rdF_in {p p2 : Nat} {R : Bool × PS} {h h1 h2 : mH} (k : rdF z f a p2 R h1 h2) (e : (h1.2.1 : Int) + p ≤ h.2.1 + p2) : rdF z f a p R h h2 := by
  obtain ⟨P, E, o', k1, k2, k3, k4, k5⟩ := k
  exact ⟨P, E, o', k1, k2, k3, by omega, k5⟩
end RDNS

theorem stK_fu {S : Nat → Option mO} {sr : Nat → Int} {it : Bool} {o a hi p e o' : Nat} {nx : Option Nat} (k : stK S sr (clX S sr) it o a nx hi p e o') : ∃ n, stK S sr (stL S sr n false 0) it o a nx hi p e o' := by
  have fa : ∀ {a p : Nat} {nx : Option Nat}, stA S sr (clX S sr) a nx hi p e → ∃ n, stA S sr (stL S sr n false 0) a nx hi p e := fun {a p nx} k => by
    obtain ⟨k0, num, vl, y, inn, k1, k⟩ := k
    rcases k with k | k | ⟨k2, q, k3, k4, k5⟩ | k | k | k | k
    · exact ⟨0, k0, num, vl, y, inn, k1, Or.inl k⟩
    · exact ⟨0, k0, num, vl, y, inn, k1, Or.inr (Or.inl k)⟩
    · rcases k5 with k5 | ⟨k5, r, b, ⟨n, k6⟩, k7, k8, k9, k10, k11⟩
      · exact ⟨0, k0, num, vl, y, inn, k1, Or.inr (Or.inr (Or.inl ⟨k2, q, k3, k4, Or.inl k5⟩))⟩
      · exact ⟨n, k0, num, vl, y, inn, k1, Or.inr (Or.inr (Or.inl ⟨k2, q, k3, k4, Or.inr ⟨k5, r, b, k6, k7, k8, k9, k10, k11⟩⟩))⟩
    · exact ⟨0, k0, num, vl, y, inn, k1, Or.inr (Or.inr (Or.inr (Or.inl k)))⟩
    · exact ⟨0, k0, num, vl, y, inn, k1, Or.inr (Or.inr (Or.inr (Or.inr (Or.inl k))))⟩
    · exact ⟨0, k0, num, vl, y, inn, k1, Or.inr (Or.inr (Or.inr (Or.inr (Or.inr (Or.inl k)))))⟩
    · exact ⟨0, k0, num, vl, y, inn, k1, Or.inr (Or.inr (Or.inr (Or.inr (Or.inr (Or.inr k)))))⟩
  rcases k with ⟨k | ⟨k0, k1, k2, k3, q, b, y, nx2, k4, k5, k6, k7, k8⟩, ko⟩ | k | k
  · obtain ⟨n, k⟩ := fa k
    exact ⟨n, Or.inl ⟨Or.inl k, ko⟩⟩
  · obtain ⟨n, k8⟩ := fa k8
    exact ⟨n, Or.inl ⟨Or.inr ⟨k0, k1, k2, k3, q, b, y, nx2, k4, k5, k6, k7, k8⟩, ko⟩⟩
  · exact ⟨0, Or.inr (Or.inl k)⟩
  · exact ⟨0, Or.inr (Or.inr k)⟩

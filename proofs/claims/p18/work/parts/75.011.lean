section mg_76
theorem stepT_at {sr sr' : Nat → Int} {s1 s2 : Nat → Nat → Prop} {d p e : Nat} (h : likeAt sr sr' d p e) (hs : ∀ a b, p ≤ a → b ≤ e → s1 a b → s2 (a + d) (b + d)) (k : stepT sr s1 p e) : stepT sr' s2 (p + d) (e + d) := by
  have hlt := stepT_lt k
  have hp : sr' (p + d) = sr p := h p (by omega) (by omega)
  rcases k with ⟨k1, k2, k3, k4⟩ | ⟨k1, k2⟩ | ⟨k1, q, k2, k3⟩ | ⟨k1, k2⟩ | ⟨k1, q, k2, k3, k4⟩ | ⟨k1, k2, k3⟩ | ⟨k1, k2⟩
  · have hl := sgnS_lt k4
    have h1 : sr' (p + d + 1) = sr (p + 1) := by rw [show p + d + 1 = p + 1 + d by omega]; exact h _ (by omega) (by omega)
    have h2 : sr' (p + d + 2) = sr (p + 2) := by rw [show p + d + 2 = p + 2 + d by omega]; exact h _ (by omega) (by omega)
    refine Or.inl ⟨hp.trans k1, by rw [h1]; exact k2, h2.trans k3, ?_⟩
    rw [show p + d + 3 = p + 3 + d by omega]
    exact sgnS_at (h.sub (by omega) (by omega)) k4
  · refine Or.inr (Or.inl ⟨hp.trans k1, ?_⟩)
    rw [show p + d + 1 = p + 1 + d by omega]
    exact numS_at (h.sub (by omega) (by omega)) k2
  · have hn := k2.1
    have hqe : q ≤ e := by rcases k3 with ⟨k3, _⟩ | ⟨_, r, _, k4, _, k5⟩ <;> omega
    refine Or.inr (Or.inr (Or.inl ⟨hp.trans k1, q + d, ?_, ?_⟩))
    · rw [show p + d + 1 = p + 1 + d by omega]
      exact namS_at (h.sub (by omega) (by omega)) k2
    · rcases k3 with ⟨rfl, k3⟩ | ⟨k3, r, k4, k5, k6, k7⟩
      · exact Or.inl ⟨rfl, by rw [h e (by omega) (by omega)]; exact k3⟩
      · refine Or.inr ⟨(h q (by omega) (by omega)).trans k3, r + d, ?_, by omega, (h r (by omega) (by omega)).trans k6, by omega⟩
        rw [show q + d + 1 = q + 1 + d by omega]
        exact hs _ _ (by omega) (by omega) k4
  · refine Or.inr (Or.inr (Or.inr (Or.inl ⟨hp.trans k1, ?_⟩)))
    rw [show p + d + 1 = p + 1 + d by omega]
    exact namS_at (h.sub (by omega) (by omega)) k2
  · have hn := k2.1
    have hm := k4.1
    refine Or.inr (Or.inr (Or.inr (Or.inr (Or.inl ⟨hp.trans k1, q + d, ?_, (h q (by omega) (by omega)).trans k3, ?_⟩))))
    · rw [show p + d + 1 = p + 1 + d by omega]
      exact namS_at (h.sub (by omega) (by omega)) k2
    · rw [show q + d + 1 = q + 1 + d by omega]
      exact numS_at (h.sub (by omega) (by omega)) k4
  · refine Or.inr (Or.inr (Or.inr (Or.inr (Or.inr (Or.inl ⟨hp.trans k1, ?_, by omega⟩)))))
    rw [show p + d + 1 = p + 1 + d by omega, h _ (by omega) (by omega)]
    exact k2
  · exact Or.inr (Or.inr (Or.inr (Or.inr (Or.inr (Or.inr ⟨hp.trans k1, by omega⟩)))))
end mg_76

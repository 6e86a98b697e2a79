section AT2
variable {sr sr' : Nat → Int} {d d' : Nat}
theorem stA_2 {S : Nat → Option mO} {cl cl' : Nat → Nat → Nat → Nat → Prop} {a hi p e : Nat} {nx : Option Nat} (h : lik2 sr sr' d d' p e) (he : ¬ dgP (sr (e + d))) (hcl : ∀ b q r, p ≤ q → r ≤ e → cl b hi (q + d) (r + d) → cl' b hi (q + d') (r + d')) (k : stA S sr cl a nx hi (p + d) (e + d)) : stA S sr' cl' a nx hi (p + d') (e + d') := by
  have lt : p < e := by
    have := stepT_lt (stA_t (st := fun _ _ => True) (fun _ _ _ _ => trivial) k)
    omega
  obtain ⟨k0, num, vl, y, inn, k1, k⟩ := k
  refine ⟨k0, num, vl, y, inn, by rw [h p (Nat.le_refl _) (by omega)]; exact k1, ?_⟩
  rw [h p (Nat.le_refl _) (by omega)]
  rcases k with k | k | ⟨k2, q, k3, k4, k5⟩ | k | ⟨k2, q, k3, k4, k5, k6, k7⟩ | k | k
  · have b := (sgnS_lt k.2.2.2.1).1
    refine Or.inl ⟨k.1, ?_, ?_, ?_, ?_, ?_⟩
    · rw [show p + d' + 1 = p + 1 + d' by omega, h (p + 1) (by omega) (by omega), show p + 1 + d = p + d + 1 by omega]; exact k.2.1
    · rw [show p + d' + 2 = p + 2 + d' by omega, h (p + 2) (by omega) (by omega), show p + 2 + d = p + d + 2 by omega]; exact k.2.2.1
    · have := sgnS_2 (p := p + 3) (h.sub (by omega) (Nat.le_refl _)) (by rw [show p + 3 + d = p + d + 3 by omega]; exact k.2.2.2.1)
      rw [show p + d' + 3 = p + 3 + d' by omega]; exact this
    · rw [show p + d' + 1 = p + 1 + d' by omega, h (p + 1) (by omega) (by omega), show p + 1 + d = p + d + 1 by omega]; exact k.2.2.2.2.1
    · have := sgV_2 (p := p + 3) (h.sub (by omega) (Nat.le_refl _)) (by rw [show p + 3 + d = p + d + 3 by omega]; exact k.2.2.2.1) he
      rw [show p + d' + 3 = p + 3 + d' by omega, this, show p + 3 + d = p + d + 3 by omega]; exact k.2.2.2.2.2
  · refine Or.inr (Or.inl ⟨k.1, ?_, ?_⟩)
    · have := numS_2 (p := p + 1) (h.sub (by omega) (Nat.le_refl _)) (by rw [show p + 1 + d = p + d + 1 by omega]; exact k.2.1)
      rw [show p + d' + 1 = p + 1 + d' by omega]; exact this
    · have := naL_3 (p := p + 1) (h.sub (by omega) (Nat.le_refl _)) (by rw [show p + 1 + d = p + d + 1 by omega]; exact k.2.1) he 2 0
      rw [show p + d' + 1 = p + 1 + d' by omega, this, show p + 1 + d = p + d + 1 by omega]; exact k.2.2
  · obtain ⟨q0, rfl⟩ : ∃ q0, q = q0 + d := ⟨q - d, by have := k3.1; omega⟩
    have q1 := k3.1
    have qe : q0 ≤ e := by
      rcases k5 with k5 | ⟨-, r, b, -, k7, -, k9, -⟩
      · omega
      · omega
    refine Or.inr (Or.inr (Or.inl ⟨k2, q0 + d', ?_, ?_, ?_⟩))
    · have := namS_2 (p := p + 1) (e := q0) (h.sub (by omega) qe) (by rw [show p + 1 + d = p + d + 1 by omega]; exact k3)
      rw [show p + d' + 1 = p + 1 + d' by omega]; exact this
    · have := nmY_2 (p := p + 1) (e := q0) (h.sub (by omega) qe)
      rw [show p + d' + 1 = p + 1 + d' by omega, this, show p + 1 + d = p + d + 1 by omega]; exact k4
    · rcases k5 with ⟨k5, k6, k7⟩ | ⟨k5, r, b, k6, k7, k8, k9, k10, k11⟩
      · refine Or.inl ⟨by omega, ?_, k7⟩
        rw [h q0 (by omega) qe]; exact k6
      · obtain ⟨r0, rfl⟩ : ∃ r0, r = r0 + d := ⟨r - d, by omega⟩
        refine Or.inr ⟨by rw [h q0 (by omega) qe]; exact k5, r0 + d', b, ?_, by omega, by rw [h r0 (by omega) (by omega)]; exact k8, by omega, k10, k11⟩
        have := hcl b (q0 + 1) r0 (by omega) (by omega) (by rw [show q0 + 1 + d = q0 + d + 1 by omega]; exact k6)
        rw [show q0 + d' + 1 = q0 + 1 + d' by omega]; exact this
  · refine Or.inr (Or.inr (Or.inr (Or.inl ⟨k.1, ?_, ?_⟩)))
    · have := namS_2 (p := p + 1) (h.sub (by omega) (Nat.le_refl _)) (by rw [show p + 1 + d = p + d + 1 by omega]; exact k.2.1)
      rw [show p + d' + 1 = p + 1 + d' by omega]; exact this
    · have := nmY_2 (p := p + 1) (e := e) (h.sub (by omega) (Nat.le_refl _))
      rw [show p + d' + 1 = p + 1 + d' by omega, this, show p + 1 + d = p + d + 1 by omega]; exact k.2.2
  · obtain ⟨q0, rfl⟩ : ∃ q0, q = q0 + d := ⟨q - d, by have := k3.1; omega⟩
    have q1 := k3.1
    have q2 := k5.1
    refine Or.inr (Or.inr (Or.inr (Or.inr (Or.inl ⟨k2, q0 + d', ?_, ?_, ?_, ?_, ?_⟩))))
    · have := namS_2 (p := p + 1) (e := q0) (h.sub (by omega) (by omega)) (by rw [show p + 1 + d = p + d + 1 by omega]; exact k3)
      rw [show p + d' + 1 = p + 1 + d' by omega]; exact this
    · rw [h q0 (by omega) (by omega)]; exact k4
    · have := numS_2 (p := q0 + 1) (h.sub (by omega) (Nat.le_refl _)) (by rw [show q0 + 1 + d = q0 + d + 1 by omega]; exact k5)
      rw [show q0 + d' + 1 = q0 + 1 + d' by omega]; exact this
    · have := nmY_2 (p := p + 1) (e := q0) (h.sub (by omega) (by omega))
      rw [show p + d' + 1 = p + 1 + d' by omega, this, show p + 1 + d = p + d + 1 by omega]; exact k6
    · have := naL_3 (p := q0 + 1) (h.sub (by omega) (Nat.le_refl _)) (by rw [show q0 + 1 + d = q0 + d + 1 by omega]; exact k5) he 2 0
      rw [show q0 + d' + 1 = q0 + 1 + d' by omega, this, show q0 + 1 + d = q0 + d + 1 by omega]; exact k7
  · refine Or.inr (Or.inr (Or.inr (Or.inr (Or.inr (Or.inl ⟨k.1, ?_, by omega, ?_⟩)))))
    · rw [show p + d' + 1 = p + 1 + d' by omega, h (p + 1) (by omega) (by omega), show p + 1 + d = p + d + 1 by omega]; exact k.2.1
    · rw [show p + d' + 1 = p + 1 + d' by omega, h (p + 1) (by omega) (by omega), show p + 1 + d = p + d + 1 by omega]; exact k.2.2.2
  · exact Or.inr (Or.inr (Or.inr (Or.inr (Or.inr (Or.inr ⟨k.1, by omega⟩)))))
end AT2

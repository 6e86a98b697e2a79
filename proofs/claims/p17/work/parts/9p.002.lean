section AT2
variable {sr sr' : Nat → Int} {d d' : Nat}
theorem stQ_2 {S : Nat → Option mO} {cl cl' : Nat → Nat → Nat → Nat → Prop} {a hi p e : Nat} {nx : Option Nat} (h : lik2 sr sr' d d' p e) (he : ¬ dgP (sr (e + d))) (hcl : ∀ b q r, p ≤ q → r ≤ e → cl b hi (q + d) (r + d) → cl' b hi (q + d') (r + d')) (k : stQ S sr cl a nx hi (p + d) (e + d)) : stQ S sr' cl' a nx hi (p + d') (e + d') := by
  have lt : p < e := by
    have := stepQ_lt (stQ_t (st := fun _ _ => True) (fun _ _ _ _ => trivial) k)
    omega
  rcases k with k | ⟨k0, k1, k2, k3, q, b, y, nx2, k4, k5, k6, k7, k8⟩
  · exact Or.inl (stA_2 h he hcl k)
  · have l8 := stepT_lt (stA_t (st := fun _ _ => True) (fun _ _ _ _ => trivial) k8)
    have l5 := (sgnS_lt k5).1
    obtain ⟨q0, rfl⟩ : ∃ q0, q = q0 + d := ⟨q - d, by omega⟩
    refine Or.inr ⟨k0, by rw [h p (Nat.le_refl _) (by omega)]; exact k1, ?_, ?_, q0 + d', b, y, nx2, ?_, ?_, ?_, k7, ?_⟩
    · rw [show p + d' + 1 = p + 1 + d' by omega, h (p + 1) (by omega) (by omega), show p + 1 + d = p + d + 1 by omega]; exact k2
    · rw [show p + d' + 2 = p + 2 + d' by omega, h (p + 2) (by omega) (by omega), show p + 2 + d = p + d + 2 by omega]; exact k3
    · have hq : ¬ dgP (sr (q0 + d)) := by rw [k6]; unfold dgP; omega
      have v := sgV_2 (p := p + 3) (e := q0) (h.sub (by omega) (by omega)) (by rw [show p + 3 + d = p + d + 3 by omega]; exact k5) hq
      rw [show p + d' + 1 = p + 1 + d' by omega, h (p + 1) (by omega) (by omega), show p + 1 + d = p + d + 1 by omega, show p + d' + 3 = p + 3 + d' by omega, v, show p + 3 + d = p + d + 3 by omega]; exact k4
    · have := sgnS_2 (p := p + 3) (e := q0) (h.sub (by omega) (by omega)) (by rw [show p + 3 + d = p + d + 3 by omega]; exact k5)
      rw [show p + d' + 3 = p + 3 + d' by omega]; exact this
    · rw [h q0 (by omega) (by omega)]; exact k6
    · have := stA_2 (p := q0 + 1) (h.sub (by omega) (Nat.le_refl _)) he (fun b q r x y => hcl b q r (by omega) y) (by rw [show q0 + 1 + d = q0 + d + 1 by omega]; exact k8)
      rw [show q0 + d' + 1 = q0 + 1 + d' by omega]; exact this
end AT2

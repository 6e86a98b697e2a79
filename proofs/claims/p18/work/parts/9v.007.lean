section EXG
variable {pool : Nat → Int} {sink : Int} {cl : (Nat → Int) → Nat → (Nat → Int) → Prop} {sh : (Nat → Int) → Int → (Nat → Int) → Prop} {n : Nat}
theorem isOver_exg (hPo : poolOk pool) (hCX : CXG cl pool 91) (hSX : SXG sh pool 61) {m : Nat → Int} {B : Int} {t : Nat} {st : Int} (ht : (t : Int) < m 3) (h : Mid m pool B) (hT : TkM m pool t) (hB : B ≤ 1900000000) (hst : 1 ≤ st ∧ st ≤ 3) : ∃ m', isOverR (sh) t st m m' ∧ Mid m' pool B ∧ TkM m' pool 99 ∧ Es (updI m (1610 + 72 * t) st) m' := by
  have k0 := h.1.1.2.1
  have k3 := h.1.1.2.2.2.2.1
  obtain ⟨b1, -⟩ := hT.2 t ht
  obtain ⟨a1, a2, a3, a4, a5, a6, ⟨n, a7, a8⟩, a9, a10⟩ := id b1
  have e : ∀ q, ¬ q = 1610 + 72 * t → updI m (1610 + 72 * t) st q = m q := fun q a => updI_n a
  have hm : Mid (updI m (1610 + 72 * t) st) pool B := h.out ⟨by omega, by omega⟩ (by omega)
  obtain ⟨m', c1, c2, c3⟩ := over_exg hPo hCX hSX (t := t) (by omega) n _ B hm hB a8.1.2 (fun k hk => by
    rw [e _ (by omega), e 0 (by omega)]
    have := a8.2.1 k hk; omega)
  refine ⟨m', ⟨by omega, n, a8.1.2, a7, c1⟩, c2, ?_, c3⟩
  have hT2 : TkM (updI m (1610 + 72 * t) st) pool 99 := by
    refine ⟨by rw [e 7 (by omega)]; exact hT.1, fun u hu => ?_⟩
    rw [e 3 (by omega)] at hu
    by_cases c : u = t
    · subst c
      refine ⟨?_, fun _ z => ?_⟩
      · unfold tkB
        rw [updI_s, e 8 (by omega), e _ (by omega), e _ (by omega), e _ (by omega), e _ (by omega), e _ (by omega), e _ (by omega), e _ (by omega), e _ (by omega), e _ (by omega), e _ (by omega), e _ (by omega), e _ (by omega)]
        refine ⟨a1, ⟨by omega, by omega⟩, a3, a4, a5, a6, ⟨n, a7, a8.1, fun k hk => ?_, fun k hk => ?_⟩, a9, a10⟩
        · rw [e _ (by omega), e 0 (by omega)]; exact a8.2.1 k hk
        · have z1 := a8.2.1 (k + 1) hk
          rw [e (1620 + 72 * u + (k + 1)) (by omega), e (1620 + 72 * u + k) (by omega), e _ (by omega)]; exact a8.2.2 k hk
      · rw [updI_s] at z; omega
    · obtain ⟨d1, d2⟩ := hT.2 u hu
      have s : sameTk m (updI m (1610 + 72 * t) st) u := ⟨fun q x y z => e q (by omega), Or.inl (e _ (by omega))⟩
      exact ⟨d1.same s (by rw [e 0 (by omega)]; exact Int.le_refl _) k0.2 (by rw [e 7 (by omega)]; exact Int.le_refl _) (by rw [e 8 (by omega)]; exact Int.le_refl _) (fun c h1 h2 => e _ (by omega)), fun _ => (d2 c).same s⟩
  exact hT2.es c3 (by rw [e 3 (by omega)]; omega) (by rw [e 0 (by omega)]; omega)
end EXG

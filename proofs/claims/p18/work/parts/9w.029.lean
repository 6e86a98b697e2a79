section mg_a2
section EXI
variable {pool : Nat → Int} {sink : Int} {cl cl' : (Nat → Int) → Nat → (Nat → Int) → Prop} {sh sh' : (Nat → Int) → Int → (Nat → Int) → Prop} {n : Nat}
theorem closes_exI (hPo : poolOk pool) (hs : InR sink) (hC : CXG cl pool n) : CXG (clI pool sink cl) pool (n + 1) := fun m t B h hB hn ht h0 => by
    have k1 := h.1.2.2.1
    obtain ⟨i1, i2⟩ := inv_cng h ht h0
    have q : ∀ q, ¬ q = 258 + 14 * t → updI m (258 + 14 * t) 1 q = m q := fun q a => updI_n a
    obtain ⟨z1, z2, z3, P, E, e1, e2, hx⟩ := h.2.2.1 t ht
    have x1 := hx.le h.2.1.2.2
    obtain ⟨x2, x3, x4⟩ := hx
    have hl : ∃ k f m2, loopR pool (drI pool cl) t E k (updI m (258 + 14 * t) 1) P f m2 ∧ Inv m2 pool (B + 120) ∧ Ev (updI m (258 + 14 * t) 1) m2 ∧ InR f := by
      rcases x4 with ⟨rfl, -⟩ | ⟨x5, k, x4⟩
      · exact ⟨0, 0, _, ⟨Nat.le_refl _, rfl, rfl⟩, i1.up (by omega), Ev.rf, by decide⟩
      · obtain ⟨f, m2, a, b, c, d⟩ := loop_exI hPo hC (t := t) (P := P) x3 k _ B P (Nat.le_refl _) (by rw [q 8 (by omega)]; omega) i1 (by omega) (by rw [q 1 (by omega), i2]; omega) x4
        exact ⟨k, f, m2, a, b.up (by omega), c, d⟩
    obtain ⟨k, f, m2, l1, l2, l3, l4⟩ := hl
    obtain ⟨v1, v2, v3, v4, v5, v6⟩ := l3
    rw [q 1 (by omega)] at v2
    rw [q 2 (by omega), q 6 (by omega)] at v3
    have ht2 : (t : Int) < m2 1 := by omega
    have hc2 : m2 (258 + 14 * t) = 1 := ((v4 t (by rw [q 1 (by omega)]; exact ht)).2.2.1).mpr updI_s
    obtain ⟨g1, g2, g3, g4⟩ := inv_close l2 ht2 hc2 hs l4
    obtain ⟨lt1, lt2, lt3, lt4⟩ := l2.lt ht2 (by rw [hc2]; decide)
    refine ⟨_, ⟨h.1, by omega, Or.inr ⟨h0, P, E, k, f, m2, e1, e2, by omega, by omega, l1, l2.1, l4, by omega, by omega, by omega, rfl⟩⟩, g1.up (by omega), ⟨?_, ?_, ?_, ?_, ?_, ?_⟩, by omega, g3⟩
    · intro c hc
      rw [g4 c (by unfold far at hc; omega) (by unfold far at hc; omega) (by unfold far at hc; omega) (by unfold far at hc; omega) (by unfold far at hc; omega) (by unfold far at hc; omega), v1 c hc, q c (by unfold far at hc; omega)]
    · rw [g4 1 (by omega) (by omega) (by omega) (by omega) (by omega) (by omega)]; exact v2
    · rw [g4 6 (by omega) (by omega) (by omega) (by omega) (by omega) (by omega)]; omega
    · intro u hu
      have w := v4 u (by rw [q 1 (by omega)]; exact hu)
      rw [q _ (by omega), q _ (by omega)] at w
      rw [g4 (262 + 14 * u) (by omega) (by omega) (by omega) (by omega) (by omega) (by omega), g4 (263 + 14 * u) (by omega) (by omega) (by omega) (by omega) (by omega) (by omega)]
      refine ⟨w.1, w.2.1, ?_⟩
      by_cases c : u = t
      · subst c
        rw [g3, h0]
        exact ⟨by decide, fun z => absurd z (by decide)⟩
      · rw [q (258 + 14 * u) (by omega)] at w
        rw [g4 (258 + 14 * u) (by omega) (by omega) (by omega) (by omega) (by omega) (by omega)]
        exact w.2.2
    · intro u a b
      rw [g4 1 (by omega) (by omega) (by omega) (by omega) (by omega) (by omega)] at b
      have k12 := l2.1.2.2.1
      rw [g4 (258 + 14 * u) (by omega) (by omega) (by omega) (by omega) (by omega) (by omega)]
      exact v5 u (by rw [q 1 (by omega)]; exact a) b
    · intro u hu
      rw [g4 _ (by omega) (by omega) (by omega) (by omega) (by omega) (by omega)]
      have := v6 u hu
      rw [q _ (by omega)] at this
      exact this
end EXI
end mg_a2

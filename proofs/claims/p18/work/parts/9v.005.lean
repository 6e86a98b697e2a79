section EXG
variable {pool : Nat → Int} {sink : Int} {cl : (Nat → Int) → Nat → (Nat → Int) → Prop} {sh : (Nat → Int) → Int → (Nat → Int) → Prop} {n : Nat}
theorem shuts_exg (hC : CXG cl pool 91) (hS : SXG sh pool n) : SXG (shB cl sh) pool (n + 1) := fun m s B h hsc hnc hB hn hs hc => by
    have hok := h.1
    have k0 := hok.2.1
    by_cases ho : m (18 + 4 * s) = 0
    · have e : ∀ q, ¬ q = 18 + 4 * s → updI m (18 + 4 * s) 1 q = m q := fun q a => updI_n a
      have hsc1 : ScI (updI m (18 + 4 * s) 1) := by
        obtain ⟨s1, s2, s3⟩ := hsc
        refine ⟨by rw [e _ (by omega)]; exact s1, ?_, fun c hcc => ?_⟩
        · by_cases z : s = 0
          · subst z; rw [updI_s]; decide
          · rw [e _ (by omega)]; exact s2
        · rw [e 0 (by omega)] at hcc
          obtain ⟨a, b⟩ := s3 c hcc
          rw [e (19 + 4 * c) (by omega), e (20 + 4 * c) (by omega), e 6 (by omega)]
          refine ⟨?_, fun h1 => ?_⟩
          · by_cases z : c = s
            · subst z; rw [updI_s]; decide
            · rw [e _ (by omega)]; exact a
          · obtain ⟨b1, b2, b3⟩ := b h1
            refine ⟨b1, b2, fun z => ?_⟩
            by_cases g : (m (19 + 4 * c)).toNat = s
            · rw [g, updI_s]; decide
            · rw [e _ (by omega)]
              refine b3 ?_
              by_cases g2 : c = s
              · subst g2; rw [ho]; decide
              · rw [e _ (by omega)] at z; exact z
      have hc2 : ∀ c : Nat, s < c → (c : Int) < updI m (18 + 4 * s) 1 0 → ¬ updI m (18 + 4 * s) 1 (18 + 4 * c) = 1 := fun c a b => by
        rw [e 0 (by omega)] at b
        rw [e _ (by omega)]; exact hc c a b
      have hr := cnt_r (openB (updI m (18 + 4 * s) 1)) (updI m (18 + 4 * s) 1 0).toNat
      obtain ⟨k, m2, a, b, c, d, f⟩ := sh_loopg hC hS (s := s) (by omega) 200 _ B (h.scope (by omega) (by decide)) hsc1 (fun t ht => by rw [e 1 (by omega)] at ht; rw [e _ (by omega)]; exact hnc t ht) hB (by rw [e 0 (by omega)]; exact hs) updI_s hc2 (by have := h.1.2.2.2.1; rw [e 2 (by omega)]; rw [e 0 (by omega)] at hr ⊢; omega)
      obtain ⟨d1, d2, d3, d4, d5⟩ := d
      have f0 : m2 0 = m 0 := (d1 0 (by unfold fat; omega)).trans (e 0 (by omega))
      have hno := lastM_no (m := m2) (s := (s : Int)) (N := (m2 1).toNat) (C := (m2 0).toNat) (by have := b.2.1; omega) f
      have g : ∀ q, ¬ q = 18 + 4 * s → updI m2 (18 + 4 * s) (if s = 0 then 0 else 2) q = m2 q := fun q a => updI_n a
      have rv : InR (if s = 0 then 0 else 2 : Int) := by split <;> decide
      have eqs : (18 + 4 * (s : Int)).toNat = 18 + 4 * s := by omega
      have eqi : (if (s : Int) = 0 then (0 : Int) else 2) = if s = 0 then 0 else 2 := by
        by_cases z : s = 0
        · subst z; rfl
        · rw [if_neg z, if_neg (by omega)]
      obtain ⟨c1, c2, c3⟩ := c
      refine ⟨updI m2 (18 + 4 * s) (if s = 0 then 0 else 2), ⟨hok, ⟨by omega, by omega⟩, Or.inr ⟨openP_nat.mpr ⟨hs, ho⟩, k, m2, by rw [eqs]; exact a, by rw [eqs, eqi]⟩⟩, b.scope (by omega) rv, ?_, ?_, fun _ => updI_s⟩
      · refine ⟨by rw [g _ (by omega)]; exact c1, ?_, fun u hu => ?_⟩
        · by_cases z : s = 0
          · subst z; rw [updI_s]; decide
          · rw [g _ (by omega)]; exact c2
        · rw [g 0 (by omega)] at hu
          obtain ⟨x, y⟩ := c3 u hu
          rw [g (19 + 4 * u) (by omega), g (20 + 4 * u) (by omega), g 6 (by omega)]
          refine ⟨?_, fun h1 => ?_⟩
          · by_cases z : u = s
            · subst z; rw [updI_s]; split <;> decide
            · rw [g _ (by omega)]; exact x
          · obtain ⟨b1, b2, b3⟩ := y h1
            refine ⟨b1, b2, fun z => ?_⟩
            by_cases q : (m2 (19 + 4 * u)).toNat = s
            · rw [q, updI_s]
              by_cases z0 : s = 0
              · rw [if_pos z0]; decide
              · exfalso
                have us : ¬ u = s := by omega
                rw [g _ (by omega)] at z
                have n1 : ¬ m2 (18 + 4 * u) = 0 := fun w => hno.2 u h1 (by omega) ⟨w, by omega, by omega⟩
                have n2 : m2 (18 + 4 * u) = 1 := by omega
                rcases d2 u (by omega) with w | w
                · rw [w] at n2
                  exact hc2 u (by omega) (by rw [e 0 (by omega)]; omega) n2
                · rw [w.2.1] at n2; exact absurd n2 (by decide)
            · rw [g _ (by omega)]
              refine b3 ?_
              by_cases g2 : u = s
              · subst g2
                intro w
                rcases d2 u (by omega) with w2 | w2
                · rw [w2, updI_s] at w; exact absurd w (by decide)
                · rw [updI_s] at w2; exact absurd w2.1 (by decide)
              · rw [g _ (by omega)] at z; exact z
      · refine ⟨fun q hq => ?_, fun u hu => ?_, ?_, fun z => ?_, fun t ht => ?_⟩
        · have q1 : ¬ q = 18 + 4 * s := by
            intro w
            subst w
            rcases hq with w | w | w | w | ⟨-, -, w⟩ | w
            · omega
            · omega
            · omega
            · omega
            · exact w s rfl
            · omega
          rw [g q q1, d1 q hq, e q q1]
        · by_cases z : u = s
          · subst z
            rw [updI_s, ho]
            by_cases z0 : u = 0
            · rw [if_pos z0]; exact Or.inl rfl
            · rw [if_neg z0]; exact Or.inr ⟨rfl, rfl, by omega⟩
          · rw [g _ (by omega)]
            have := d2 u hu
            rw [e _ (by omega)] at this
            exact this
        · rw [e 1 (by omega), e 2 (by omega), e 6 (by omega)] at d3
          rw [g 1 (by omega), g 2 (by omega), g 6 (by omega)]; exact d3
        · have y := d4 (fun t ht => by rw [e 1 (by omega)] at ht; rw [e _ (by omega)]; exact z t ht)
          intro t ht
          rw [g 1 (by omega)] at ht
          rw [g _ (by omega)]; exact y t ht
        · rw [g _ (by omega)]
          have := d5 t ht
          rw [e _ (by omega)] at this
          exact this
    · exact ⟨m, ⟨hok, ⟨by omega, by omega⟩, Or.inl ⟨fun z => ho (openP_nat.mp z).2, rfl⟩⟩, h, hsc, Es.rf, fun z => absurd z ho⟩
end EXG

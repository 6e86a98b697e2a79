section EXG
variable {pool : Nat → Int} {sink : Int} {cl : (Nat → Int) → Nat → (Nat → Int) → Prop} {sh : (Nat → Int) → Int → (Nat → Int) → Prop} {n : Nat}
theorem doesIn_exg (hPo : poolOk pool) (hCX : CXG cl pool 91) (hSX : SXG sh pool 61) {m : Nat → Int} {B : Int} {t p e o o' k : Nat} (ht : (t : Int) < m 3) (h : Mid m pool B) (hT : TkM m pool t) (hB : B ≤ 1800000000) (hn : m (1619 + 72 * t) = (o : Int) + 1) (hK : stepK pool (stsC pool k) o p e o') (he : ¬ dgP (pool e)) (he2 : e ≤ p + 121) (hp : (e : Int) ≤ m 8) :
    ∃ f m', doesInR pool (cl) (sh) m t p f m' ∧ Mid m' pool (B + 1) ∧ TkM m' pool t ∧ InR f ∧ keepT m m' t ∧ (f = 0 → m' (1619 + 72 * t) = (o' : Int) + 1) := by
  obtain ⟨h1, h2, h3, h4⟩ := id h
  obtain ⟨hM, k0, k1, k2, k3, k4, k5, k7⟩ := id h1.1
  have hlt := stepK_lt hK
  have h8 := h1.2.1.2.2
  obtain ⟨b1, -⟩ := hT.2 t ht
  obtain ⟨a1, a2, a3, a4, a5, a6, ⟨n, a7, a8⟩, a9, a10⟩ := id b1
  obtain rfl : n = o + 1 := by omega
  obtain ⟨⟨n1, n2⟩, n3, n4⟩ := id a8
  have top := n3 o (by omega)
  have etop : m (1619 + 72 * t + (o + 1)) = m (1620 + 72 * t + o) := by congr 1; omega
  rcases hK with ⟨hK, rfl⟩ | ⟨hK, -, rfl⟩ | ⟨hK, -, ho⟩
  · have hpk : ¬ pool p = 40 ∧ ¬ pool p = 41 := by
      rcases hK with (z | z | z | z | z | z | z) | z
      all_goals (have := z.1; constructor <;> omega)
    obtain ⟨f, m', a, b, c, d⟩ := stepQ_exg (s2 := m (1619 + 72 * t + (o' + 1))) hPo hCX h1 (by omega) (by rw [h3.cnt k1.1]; omega) (hM _) hK he he2 hp
    have ces := c.es
    exact ⟨f, m', ⟨h1.1, by omega, by omega, o' + 1, n2, a7, Or.inr (Or.inr ⟨hpk.1, hpk.2, a⟩)⟩, ⟨b, c.sc h2 k0.2, ces.2.2.2.1 h3, ces.ns h4 k0.2⟩, hT.es ces k3.2 k0.2, d, ces.kt (by omega), fun _ => by rw [(ces.tk (t := t) (by omega)).1 _ (by omega) (by omega) (by omega)]; exact hn⟩
  · by_cases c6 : m 0 = 60
    · exact ⟨107, m, ⟨h1.1, by omega, by omega, o + 1, n2, a7, Or.inl ⟨hK, Or.inl ⟨c6, rfl, rfl⟩⟩⟩, h.up (by omega), hT, by decide, ⟨rfl, rfl, ⟨rfl, Int.le_refl _⟩, fun _ _ _ _ => rfl⟩, fun z => absurd z (by decide)⟩
    · by_cases co : openP m (m (1619 + 72 * t + (o + 1)))
      · have es : (((m (1620 + 72 * t + o)).toNat : Nat) : Int) = m (1620 + 72 * t + o) := by omega
        have eC : (((m 0).toNat : Nat) : Int) = m 0 := by omega
        have hp0 : m (18 + 4 * (m (1620 + 72 * t + o)).toNat) = 0 := by
          have := co.2.2
          rw [etop] at this
          rw [← this]; congr 1; omega
        have mo := mid_opens h (C := (m 0).toNat) (p := (m (1620 + 72 * t + o)).toNat) (t := (t : Int)) (by omega) (by omega) (by omega) hp0 ⟨by omega, by omega⟩ (by omega)
        rw [es, ← etop] at mo
        obtain ⟨o0, o1, o2, o3, o4, o6, oe⟩ := opensM_at (m := m) (C := (m 0).toNat) (p := m (1619 + 72 * t + (o + 1))) (t := (t : Int))
        have mm := (mo.out (k := 1620 + 72 * t + (o + 1)) (v := m 0) ⟨by omega, by omega⟩ (by omega)).out (k := 1619 + 72 * t) (v := ((o + 1 : Nat) : Int) + 1) ⟨by omega, by omega⟩ (by omega)
        have ev : ∀ q, ¬ q = 1619 + 72 * t → ¬ q = 1620 + 72 * t + (o + 1) → updI (updI (opensM m (m 0).toNat (m (1619 + 72 * t + (o + 1))) t) (1620 + 72 * t + (o + 1)) (m 0)) (1619 + 72 * t) (((o + 1 : Nat) : Int) + 1) q = opensM m (m 0).toNat (m (1619 + 72 * t + (o + 1))) t q := fun q a b => by rw [updI_n a, updI_n b]
        have oo : o + 1 < 59 := by omega
        refine ⟨0, _, ⟨h1.1, by omega, by omega, o + 1, n2, a7, Or.inl ⟨hK, Or.inr (Or.inr ⟨c6, co, rfl, rfl⟩)⟩⟩, mm, ⟨?_, fun u hu => ?_⟩, by decide, ⟨?_, ?_, ?_, fun q x y z => ?_⟩, fun _ => updI_s⟩
        · rw [ev 7 (by omega) (by omega), oe 7 (by omega) (by omega) (by omega)]; exact hT.1
        · rw [ev 3 (by omega) (by omega), oe 3 (by omega) (by omega) (by omega)] at hu
          by_cases c : u = t
          · subst c
            refine ⟨?_, fun z => absurd rfl z⟩
            have ow : ∀ q, 1608 + 72 * u ≤ q → ¬ q = 1619 + 72 * u → ¬ q = 1620 + 72 * u + (o + 1) → updI (updI (opensM m (m 0).toNat (m (1619 + 72 * u + (o + 1))) u) (1620 + 72 * u + (o + 1)) (m 0)) (1619 + 72 * u) (((o + 1 : Nat) : Int) + 1) q = m q := fun q a b c => by rw [ev q b c, oe q (by omega) (by omega) (by omega)]
            unfold tkB
            rw [ow (1609 + 72 * u) (by omega) (by omega) (by omega), ow (1610 + 72 * u) (by omega) (by omega) (by omega), ow (1614 + 72 * u) (by omega) (by omega) (by omega), ow (1612 + 72 * u) (by omega) (by omega) (by omega), ow (1613 + 72 * u) (by omega) (by omega) (by omega), ow (1615 + 72 * u) (by omega) (by omega) (by omega), ow (1608 + 72 * u) (by omega) (by omega) (by omega), ow (1620 + 72 * u) (by omega) (by omega) (by omega), ow (1611 + 72 * u) (by omega) (by omega) (by omega), ow (1616 + 72 * u) (by omega) (by omega) (by omega), ow (1617 + 72 * u) (by omega) (by omega) (by omega), ev 7 (by omega) (by omega), oe 7 (by omega) (by omega) (by omega), ev 8 (by omega) (by omega), oe 8 (by omega) (by omega) (by omega), updI_s]
            refine ⟨a1, a2, a3, a4, a5, a6, ⟨o + 1 + 1, by omega, ⟨⟨by omega, by omega⟩, fun j hj => ?_, fun j hj => ?_⟩⟩, a9, a10⟩
            · rw [ev 0 (by omega) (by omega), o0]
              by_cases cj : j = o + 1
              · subst cj
                rw [updI_n (by omega), updI_s]; omega
              · rw [ow _ (by omega) (by omega) (by omega)]
                have := n3 j (by omega); omega
            · by_cases cj : j = o
              · subst cj
                rw [show updI (updI (opensM m (m 0).toNat (m (1619 + 72 * u + (j + 1))) u) (1620 + 72 * u + (j + 1)) (m 0)) (1619 + 72 * u) (((j + 1 : Nat) : Int) + 1) (1620 + 72 * u + (j + 1)) = m 0 by rw [updI_n (by omega), updI_s], ow (1620 + 72 * u + j) (by omega) (by omega) (by omega), ev _ (by omega) (by omega), o2, etop]
              · have z1 := n3 (j + 1) (by omega)
                rw [ow (1620 + 72 * u + (j + 1)) (by omega) (by omega) (by omega), ow (1620 + 72 * u + j) (by omega) (by omega) (by omega), ev _ (by omega) (by omega), oe _ (by omega) (by omega) (by omega)]
                exact n4 j (by omega)
          · obtain ⟨d1, d2⟩ := hT.2 u hu
            have s : sameTk m (updI (updI (opensM m (m 0).toNat (m (1619 + 72 * t + (o + 1))) t) (1620 + 72 * t + (o + 1)) (m 0)) (1619 + 72 * t) (((o + 1 : Nat) : Int) + 1)) u := ⟨fun q x y z => by rw [ev q (by omega) (by omega), oe q (by omega) (by omega) (by omega)], Or.inl (by rw [ev _ (by omega) (by omega), oe _ (by omega) (by omega) (by omega)])⟩
            exact ⟨d1.same s (by rw [ev 0 (by omega) (by omega), o0]; omega) k0.2 (by rw [ev 7 (by omega) (by omega), oe 7 (by omega) (by omega) (by omega)]; exact Int.le_refl _) (by rw [ev 8 (by omega) (by omega), oe 8 (by omega) (by omega) (by omega)]; exact Int.le_refl _) (fun c x y => by rw [ev _ (by omega) (by omega), oe _ (by omega) (by omega) (by omega)]), fun z => (d2 c).same s⟩
        · rw [ev 3 (by omega) (by omega), oe 3 (by omega) (by omega) (by omega)]
        · rw [ev 7 (by omega) (by omega), oe 7 (by omega) (by omega) (by omega)]
        · rw [ev 8 (by omega) (by omega), oe 8 (by omega) (by omega) (by omega), ev 1 (by omega) (by omega), oe 1 (by omega) (by omega) (by omega)]; exact ⟨rfl, Int.le_refl _⟩
        · rw [ev q (by omega) (by omega), oe q (by omega) (by omega) (by omega)]
      · exact ⟨101, m, ⟨h1.1, by omega, by omega, o + 1, n2, a7, Or.inl ⟨hK, Or.inr (Or.inl ⟨c6, co, rfl, rfl⟩)⟩⟩, h.up (by omega), hT, by decide, ⟨rfl, rfl, ⟨rfl, Int.le_refl _⟩, fun _ _ _ _ => rfl⟩, fun z => absurd z (by decide)⟩
  · subst ho
    have e1 : ∀ q, ¬ q = 1619 + 72 * t → updI m (1619 + 72 * t) (((o' + 1 + 1 : Nat) : Int) - 1) q = m q := fun q a => updI_n a
    have mm : Mid (updI m (1619 + 72 * t) (((o' + 1 + 1 : Nat) : Int) - 1)) pool B := h.out ⟨by omega, by omega⟩ (by omega)
    have hT2 : TkM (updI m (1619 + 72 * t) (((o' + 1 + 1 : Nat) : Int) - 1)) pool t := by
      refine ⟨by rw [e1 7 (by omega)]; exact hT.1, fun u hu => ?_⟩
      rw [e1 3 (by omega)] at hu
      by_cases c : u = t
      · subst c
        refine ⟨?_, fun z => absurd rfl z⟩
        unfold tkB
        rw [updI_s, e1 8 (by omega), e1 _ (by omega), e1 _ (by omega), e1 _ (by omega), e1 _ (by omega), e1 _ (by omega), e1 _ (by omega), e1 _ (by omega), e1 _ (by omega), e1 _ (by omega), e1 _ (by omega), e1 _ (by omega), e1 _ (by omega)]
        refine ⟨a1, a2, a3, a4, a5, a6, ⟨o' + 1, by omega, ⟨⟨by omega, by omega⟩, fun j hj => ?_, fun j hj => ?_⟩⟩, a9, a10⟩
        · rw [e1 _ (by omega), e1 0 (by omega)]; exact n3 j (by omega)
        · have z1 := n3 (j + 1) (by omega)
          rw [e1 (1620 + 72 * u + (j + 1)) (by omega), e1 (1620 + 72 * u + j) (by omega), e1 _ (by omega)]; exact n4 j (by omega)
      · obtain ⟨d1, d2⟩ := hT.2 u hu
        have s : sameTk m (updI m (1619 + 72 * t) (((o' + 1 + 1 : Nat) : Int) - 1)) u := ⟨fun q x y z => e1 q (by omega), Or.inl (e1 _ (by omega))⟩
        exact ⟨d1.same s (by rw [e1 0 (by omega)]; exact Int.le_refl _) k0.2 (by rw [e1 7 (by omega)]; exact Int.le_refl _) (by rw [e1 8 (by omega)]; exact Int.le_refl _) (fun c x y => e1 _ (by omega)), fun _ => (d2 c).same s⟩
    have es : (((m (1620 + 72 * t + (o' + 1))).toNat : Nat) : Int) = m (1620 + 72 * t + (o' + 1)) := by omega
    obtain ⟨m', a, b, c, d, -⟩ := hSX _ (m (1620 + 72 * t + (o' + 1))).toNat B mm.1 mm.2.1 mm.2.2.1 (by omega) (by omega) (by rw [e1 0 (by omega)]; omega) (fun c _ hc => mm.2.2.2 c hc)
    rw [es, ← etop] at a
    have kt := d.kt (t := t) (by omega)
    refine ⟨0, m', ⟨h1.1, by omega, by omega, o' + 1 + 1, n2, a7, Or.inr (Or.inl ⟨hK, rfl, a⟩)⟩, ⟨b.up (by omega), c, d.2.2.2.1 mm.2.2.1, d.ns mm.2.2.2 (by rw [e1 0 (by omega)]; omega)⟩, hT2.es d (by rw [e1 3 (by omega)]; omega) (by rw [e1 0 (by omega)]; omega), by decide, ⟨kt.1.trans (e1 3 (by omega)), kt.2.1.trans (e1 7 (by omega)), ⟨kt.2.2.1.1.trans (e1 8 (by omega)), by have := kt.2.2.1.2; rw [e1 1 (by omega)] at this; exact this⟩, fun q x y z => (kt.2.2.2 q x y z).trans (e1 q (by omega))⟩, fun _ => ?_⟩
    rw [(d.tk (t := t) (by omega)).1 _ (by omega) (by omega) (by omega), updI_s]
    omega
end EXG

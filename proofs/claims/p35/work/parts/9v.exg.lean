/-! ===== closings, shuttings and turns come to their end, whatever closes a thing and shuts a scope ===== -/
def CXG (cl : (Nat → Int) → Nat → (Nat → Int) → Prop) (pool : Nat → Int) (n : Nat) : Prop := ∀ (m : Nat → Int) (t : Nat) (B : Int), Inv m pool B → B + 130 * n ≤ 2000000000 → 91 ≤ n + cnt (cngB m) (m 1).toNat → (t : Int) < m 1 → m (258 + 14 * t) = 0 →
  ∃ m', cl m t m' ∧ Inv m' pool B ∧ Ev m m' ∧ m 2 < m' 2 ∧ m' (258 + 14 * t) = 2
section EXG
variable {pool : Nat → Int} {sink : Int} {cl : (Nat → Int) → Nat → (Nat → Int) → Prop} {sh : (Nat → Int) → Int → (Nat → Int) → Prop} {n : Nat}
theorem stepT_exg {m : Nat → Int} {B s2 : Int} {k p e : Nat} (hPo : poolOk pool) (hC : CXG cl pool n) (h : Inv m pool B) (hB : B + 130 * n + 2 ≤ 2000000000) (hn : 91 ≤ n + cnt (cngB m) (m 1).toNat) (hs : InR s2) (hT : stepT pool (stsC pool k) p e) (he : ¬ dgP (pool e)) (he2 : e ≤ p + 121) (hp : (e : Int) ≤ m 8) :
    ∃ f m', stpR pool (cl) m p s2 f m' ∧ Inv m' pool (B + 1) ∧ Ev m m' ∧ InR f := by
  have hlt := stepT_lt hT
  have hok := h.1
  have h8 := h.2.1.2.2
  obtain ⟨hM, k0, k1, k2, k3, k4, k5, k7⟩ := id hok
  have h1 : Inv m pool (B + 1) := h.up (by omega)
  rcases hT with ⟨hk, hc, hq, hv⟩ | ⟨hk, hv⟩ | ⟨hk, q, hq, hx⟩ | ⟨hk, hq⟩ | ⟨hk, q, hq, hq2, hv⟩ | ⟨hk, hc, rfl⟩ | ⟨hk, rfl⟩
  · obtain ⟨d1, d2⟩ := sgn_dig hv he
    exact ⟨0, _, ⟨hok, hs, by omega, Or.inl ⟨hk, hc, rfl, 20, d1, rfl⟩⟩, h1.out (wrap_r _) (by omega) (by omega), Ev.out (by unfold far; omega) (by omega) (by omega) k1.2 (Or.inl (by omega)), by decide⟩
  · obtain ⟨d1, d2⟩ := num_dig hv (by decide) he
    exact ⟨_, m, ⟨hok, hs, by omega, Or.inr (Or.inl ⟨hk, rfl, 20, d1, rfl⟩)⟩, h1, Ev.rf, ⟨by omega, by omega⟩⟩
  · have hne := nam_end hq
    obtain ⟨q1, q2, q3, q4⟩ := id hq
    have hft : ∃ P E : Nat, ftF pool 130 q = ((P : Int), (E : Int)) ∧ textT (m 8) pool P E ∧ (pool q = 123 → brStop pool 130 (q + 1) 1) := by
      rcases hx with ⟨rfl, hx⟩ | ⟨hx, r, hr, hr2, hr3, rfl⟩
      · exact ⟨e, e, by unfold ftF; rw [if_neg hx], ⟨Nat.le_refl _, by omega, Or.inl ⟨rfl, by omega⟩⟩, fun z => absurd z hx⟩
      · obtain ⟨b1, b2⟩ := (stsC_skip k _ _ hr).br (n := 130) hr3 (by omega)
        exact ⟨q + 1, r, by unfold ftF; rw [if_pos hx, b1]; congr 1; omega, ⟨hr2, by omega, Or.inr ⟨by omega, k, hr⟩⟩, fun _ => b2⟩
    obtain ⟨P, E, hf, ht, hb⟩ := hft
    refine ⟨takenV m pool (m 1).toNat (p + 1) q s2, takenM m pool (m 1).toNat 130 (p + 1) q s2, ⟨hok, hs, by omega, Or.inr (Or.inr (Or.inl ⟨hk, 130, by omega, ?_, ?_, ?_⟩))⟩, ?_⟩
    · rw [hne]; exact hb
    · rw [hne]
    · rw [hne]
    · have hr : InR (takenV m pool (m 1).toNat (p + 1) q s2) := by unfold takenV; split <;> (try split) <;> (try split) <;> decide
      by_cases z : takenV m pool (m 1).toNat (p + 1) q s2 = 0
      · have z2 := z
        unfold takenV at z2
        split at z2
        · rename_i ho
          split at z2
          · exact absurd z2 (by decide)
          · split at z2
            · exact absurd z2 (by decide)
            · rename_i h9
              have y := inv_take (rc := pool) h (N := (m 1).toNat) (fr := p + 1) (to := q) (o := s2) (P := P) (E := E) (by omega) (by omega) ⟨ho.1, by omega⟩ (by omega) (by omega) hPo.r q3 ht (by omega)
              unfold takenM
              rw [if_pos z, hf]
              exact ⟨y.1, y.2, hr⟩
        · exact absurd z2 (by decide)
      · unfold takenM
        rw [if_neg z]
        exact ⟨h1, Ev.rf, hr⟩
  · have hne := nam_end hq
    by_cases z : hbL m pool (p + 1) e (m 1).toNat 0 < 0
    · exact ⟨104, m, ⟨hok, hs, by omega, Or.inr (Or.inr (Or.inr (Or.inl ⟨hk, Or.inl ⟨by rw [hne]; exact z, rfl, rfl⟩⟩)))⟩, h1, Ev.rf, by decide⟩
    · obtain ⟨y1, y2⟩ := hbL_held (m := m) (rc := pool) (fr := p + 1) (to := e) (m 1).toNat 0 (by omega)
      obtain ⟨m', c1, c2, c3, -, -⟩ := hC m _ B h (by omega) hn (by omega) y1
      exact ⟨0, m', ⟨hok, hs, by omega, Or.inr (Or.inr (Or.inr (Or.inl ⟨hk, Or.inr ⟨by rw [hne]; omega, rfl, by rw [hne]; exact c1⟩⟩)))⟩, c2.up (by omega), c3, by decide⟩
  · have hne := nam_end hq
    have q1 := hq.1
    obtain ⟨d1, d2⟩ := num_dig hv (by decide) he
    have hnr : InR (numAt pool 20 (q + 1)) := ⟨by omega, by omega⟩
    by_cases z : hbL m pool (p + 1) q (m 1).toNat 0 < 0
    · exact ⟨104, m, ⟨hok, hs, by omega, Or.inr (Or.inr (Or.inr (Or.inr (Or.inl ⟨hk, 20, by rw [hne]; exact d1, by rw [hne]; exact hnr, Or.inl ⟨by rw [hne]; exact z, rfl, rfl⟩⟩))))⟩, h1, Ev.rf, by decide⟩
    · by_cases ho : openP m (numAt pool 20 (q + 1))
      · obtain ⟨y1, y2⟩ := hbL_held (m := m) (rc := pool) (fr := p + 1) (to := q) (m 1).toNat 0 (by omega)
        have y := inv_move h (t := (hbL m pool (p + 1) q (m 1).toNat 0).toNat) (s := numAt pool 20 (q + 1)) (by omega) ⟨ho.1, by omega⟩ (by omega)
        exact ⟨0, _, ⟨hok, hs, by omega, Or.inr (Or.inr (Or.inr (Or.inr (Or.inl ⟨hk, 20, by rw [hne]; exact d1, by rw [hne]; exact hnr, Or.inr (Or.inr ⟨by rw [hne]; omega, by rw [hne]; exact ho, rfl, by rw [hne]⟩)⟩))))⟩, y.1, y.2, by decide⟩
      · exact ⟨105, m, ⟨hok, hs, by omega, Or.inr (Or.inr (Or.inr (Or.inr (Or.inl ⟨hk, 20, by rw [hne]; exact d1, by rw [hne]; exact hnr, Or.inr (Or.inl ⟨by rw [hne]; omega, by rw [hne]; exact ho, rfl, rfl⟩)⟩))))⟩, h1, Ev.rf, by decide⟩
  · refine ⟨_, _, ⟨hok, hs, by omega, Or.inr (Or.inr (Or.inr (Or.inr (Or.inr (Or.inl ⟨hk, hc, rfl, rfl⟩)))))⟩, ?_⟩
    have hc' : 48 ≤ pool (p + 1) ∧ pool (p + 1) ≤ 57 := hc
    by_cases z : pool (p + 1) - 48 ≤ m 3 - 1 ∧ m (1610 + 72 * (pool (p + 1) - 48)).toNat = 0
    · rw [if_pos z, if_pos z]
      exact ⟨h1.out (by decide) (by omega) (by omega), Ev.out (fun w => by
        unfold far at w
        rcases w with w | w | w | w | w | ⟨-, -, w⟩
        · omega
        · omega
        · omega
        · omega
        · omega
        · exact w (pool (p + 1) - 48).toNat (by omega)) (by omega) (by omega) k1.2 (Or.inr rfl), by decide⟩
    · rw [if_neg z, if_neg z]
      exact ⟨h1, Ev.rf, by decide⟩
  · exact ⟨0, m, ⟨hok, hs, by omega, Or.inr (Or.inr (Or.inr (Or.inr (Or.inr (Or.inr ⟨by rw [hk]; decide, rfl, rfl⟩)))))⟩, h1, Ev.rf, by decide⟩
theorem stepQ_exg {m : Nat → Int} {B s2 : Int} {k p e : Nat} (hPo : poolOk pool) (hC : CXG cl pool n) (h : Inv m pool B) (hB : B + 130 * n + 2 ≤ 2000000000) (hn : 91 ≤ n + cnt (cngB m) (m 1).toNat) (hs : InR s2) (hT : stepQ pool (stsC pool k) p e) (he : ¬ dgP (pool e)) (he2 : e ≤ p + 121) (hp : (e : Int) ≤ m 8) :
    ∃ f m', doesR pool (cl) m p s2 f m' ∧ Inv m' pool (B + 1) ∧ Ev m m' ∧ InR f := by
  rcases hT with hT | ⟨hk, hc, hq, q, hv, hq2, hT⟩
  · obtain ⟨f, m', a, b, c, d⟩ := stepT_exg hPo hC h hB hn hs hT he he2 hp
    exact ⟨f, m', Or.inl a, b, c, d⟩
  · have h8 := h.2.1.2.2
    have hl := sgnS_lt hv
    have hl2 := stepT_lt hT
    have nd : ¬ dgP (pool q) := by rw [hq2]; decide
    obtain ⟨d1, d2⟩ := sgn_dig hv nd
    have hnc : ∀ j, p + 3 ≤ j → j < q → ¬ pool j = 58 := by
      intro j a b
      rcases hv with ⟨v0, v1, v2, v3⟩ | ⟨v1, v2, v3⟩
      · by_cases z : j = p + 3
        · subst z; rw [v0]; decide
        · have := v3 j (by omega) b
          unfold dgP at this; omega
      · have := v3 j a b
        unfold dgP at this; omega
    have hnr : InR (numAt pool 20 (p + 3)) := ⟨by omega, by omega⟩
    by_cases z : m (10 + pool (p + 1) - 48).toNat < numAt pool 20 (p + 3)
    · obtain ⟨f, m', a, b, c, d⟩ := stepT_exg hPo hC h hB hn hs hT he (by omega) hp
      exact ⟨f, m', Or.inr ⟨hk, h.1, hs, by omega, hc, 20, q, d1, by omega, hq2, hnc, hnr, Or.inl ⟨z, a⟩⟩, b, c, d⟩
    · exact ⟨0, m, Or.inr ⟨hk, h.1, hs, by omega, hc, 20, q, d1, by omega, hq2, hnc, hnr, Or.inr ⟨z, rfl, rfl⟩⟩, h.up (by omega), Ev.rf, by decide⟩
def SXG (sh : (Nat → Int) → Int → (Nat → Int) → Prop) (pool : Nat → Int) (n : Nat) : Prop := ∀ (m : Nat → Int) (s : Nat) (B : Int), Inv m pool B → ScI m → NC m → B ≤ 1900000000 → 61 ≤ n + s → (s : Int) < m 0 → (∀ c : Nat, s < c → (c : Int) < m 0 → ¬ m (18 + 4 * c) = 1) →
  ∃ m', sh m s m' ∧ Inv m' pool B ∧ ScI m' ∧ Es m m' ∧ (m (18 + 4 * s) = 0 → m' (18 + 4 * s) = if s = 0 then 0 else 2)
def shB (cl : (Nat → Int) → Nat → (Nat → Int) → Prop) (sh : (Nat → Int) → Int → (Nat → Int) → Prop) (m : Nat → Int) (s : Int) (m' : Nat → Int) : Prop := mOk m ∧ InR s ∧ ((¬ openP m s ∧ m' = m) ∨ (openP m s ∧ ∃ k m2, shLoopR cl sh s k (updI m (18 + 4 * s).toNat 1) m2 ∧ m' = updI m2 (18 + 4 * s).toNat (if s = 0 then 0 else 2)))
theorem sh_loopg (hC : CXG cl pool 91) {s : Nat} (hS : SXG sh pool n) (hn : 60 ≤ n + s) : ∀ (K : Nat) (m : Nat → Int) (B : Int), Inv m pool B → ScI m → NC m → B ≤ 1900000000 → (s : Int) < m 0 → m (18 + 4 * s) = 1 → (∀ c : Nat, s < c → (c : Int) < m 0 → ¬ m (18 + 4 * c) = 1) → (90 - m 2) + cnt (openB m) (m 0).toNat ≤ K →
    ∃ k m', shLoopR (cl) (sh) s k m m' ∧ Inv m' pool B ∧ ScI m' ∧ Es m m' ∧ lastI m' s < 0
  | K, m, B, h, hsc, hnc, hB, hs0, hs1, hc1, hK => by
    have hok := h.1
    obtain ⟨hM, k0, k1, k2, k3, k4, k5, k7⟩ := id hok
    have h01 := h.2.1.1
    have hr := lastM_p m s (m 1).toNat (m 0).toNat (by omega)
    have hdef : lastI m s = lastM m s (m 1).toNat (m 0).toNat := rfl
    rw [← hdef] at hr
    have rc := cnt_r (openB m) (m 0).toNat
    rcases hr with hr | ⟨u, hr, hu1, hu2, hu3⟩ | ⟨u, hr, hu0, hu1, hu2, hu3⟩
    · exact ⟨0, m, ⟨hok, h01, by omega, rfl⟩, h, hsc, Es.rf, by omega⟩
    · obtain ⟨m1, a, b, c, d, -⟩ := hC m u B h (by omega) (by rw [hnc.cnt k1.1]; omega) (by omega) hu2
      have b2 := b.1.2.2.2.1
      have e0 : m1 0 = m 0 := c.1 0 (by unfold far; omega)
      have ec : cnt (openB m1) (m 0).toNat = cnt (openB m) (m 0).toNat := cnt_congr _ (fun q hq => by unfold openB; rw [c.1 _ (by unfold far; omega)])
      cases K with
      | zero => omega
      | succ K =>
        obtain ⟨k, m', a2, b2, c2, d2, e2⟩ := sh_loopg hC hS hn K m1 B b (c.sc hsc k0.2) (c.es.2.2.2.1 hnc) hB (by omega) (by rw [c.1 _ (by unfold far; omega)]; exact hs1) (fun q x y => by rw [c.1 _ (by unfold far; omega)]; exact hc1 q x (by omega)) (by rw [e0, ec]; omega)
        exact ⟨k + 1, m', ⟨hok, h01, Or.inr (Or.inl ⟨by omega, m1, by rw [hr, Int.toNat_natCast]; exact a, a2⟩)⟩, b2, c2, c.es.tr d2, e2⟩
    · obtain ⟨p1, p2⟩ := hsc.2.2 u (by omega)
      obtain ⟨p3, -, -⟩ := p2 hu0
      obtain ⟨m1, a, b, c, d, e⟩ := hS m u B h hsc hnc hB (by omega) (by omega) (fun q x y => hc1 q (by omega) y)
      have e0 : m1 0 = m 0 := d.1 0 (by unfold fat; omega)
      have eu := e hu2
      rw [if_neg (by omega)] at eu
      have ec : cnt (openB m1) (m 0).toNat < cnt (openB m) (m 0).toNat := by
        have le : ∀ N : Nat, N ≤ 60 → cnt (openB m1) N ≤ cnt (openB m) N ∧ (u < N → cnt (openB m1) N < cnt (openB m) N) := by
          intro N
          induction N with
          | zero => intro _; exact ⟨Int.le_refl _, fun z => by omega⟩
          | succ N ih =>
            intro hN
            obtain ⟨i1, i2⟩ := ih (by omega)
            rw [cnt_S, cnt_S]
            by_cases g : N = u
            · subst g
              rw [show openB m1 N = false from decide_eq_false (by rw [eu]; decide), show openB m N = true from decide_eq_true hu2]
              simp only [if_true, Bool.false_eq_true, if_false]
              omega
            · have q : (if openB m1 N = true then (1 : Int) else 0) ≤ (if openB m N = true then 1 else 0) := by
                rcases d.2.1 N (by omega) with w | w
                · rw [show openB m1 N = openB m N by unfold openB; rw [w]]; exact Int.le_refl _
                · rw [show openB m1 N = false from decide_eq_false (by rw [w.2.1]; decide)]
                  simp only [Bool.false_eq_true, if_false]
                  split <;> decide
              refine ⟨by omega, fun z => ?_⟩
              have := i2 (by omega)
              omega
        exact (le (m 0).toNat (by omega)).2 (by omega)
      have d3 := d.2.2.1
      have st1 : m1 (18 + 4 * s) = 1 := by
        rcases d.2.1 s (by omega) with w | w
        · rw [w]; exact hs1
        · rw [hs1] at w; exact absurd w.1 (by decide)
      have rc1 := cnt_r (openB m1) (m 0).toNat
      cases K with
      | zero => omega
      | succ K =>
        obtain ⟨k, m', a2, b2, c2, d2, e2⟩ := sh_loopg hC hS hn K m1 B b c (d.2.2.2.1 hnc) hB (by omega) st1 (fun q x y => by
          rcases d.2.1 q (by omega) with w | w
          · rw [w]; exact hc1 q x (by omega)
          · rw [w.2.1]; decide) (by rw [e0]; omega)
        exact ⟨k + 1, m', ⟨hok, h01, Or.inr (Or.inr ⟨by omega, m1, by rw [hr, show 100 + (u : Int) - 100 = u by omega]; exact a, a2⟩)⟩, b2, c2, d.tr d2, e2⟩
theorem shuts_exg (hC : CXG cl pool 91) (hS : SXG sh pool n) : SXG (shB cl sh) pool (n + 1) := fun m s B h hsc hnc hB hn hs hc => by
    have hok := h.1
    have k0 := hok.2.1
    by_cases ho : m (18 + 4 * s) = 0
    · have e : ∀ q, ¬ q = 18 + 4 * s → updI m (18 + 4 * s) 1 q = m q := fun q a => updI_n a
      have hsc1 : ScI (updI m (18 + 4 * s) 1) := by
        obtain ⟨s1, s2, s3⟩ := hsc
        refine ⟨by rw [e _ (by omega)]; exact s1, ?_, fun c hcc => ?_⟩
        · by_cases z : s = 0
          · subst z; rw [updI_s]; decide
          · rw [e _ (by omega)]; exact s2
        · rw [e 0 (by omega)] at hcc
          obtain ⟨a, b⟩ := s3 c hcc
          rw [e (19 + 4 * c) (by omega), e (20 + 4 * c) (by omega), e 6 (by omega)]
          refine ⟨?_, fun h1 => ?_⟩
          · by_cases z : c = s
            · subst z; rw [updI_s]; decide
            · rw [e _ (by omega)]; exact a
          · obtain ⟨b1, b2, b3⟩ := b h1
            refine ⟨b1, b2, fun z => ?_⟩
            by_cases g : (m (19 + 4 * c)).toNat = s
            · rw [g, updI_s]; decide
            · rw [e _ (by omega)]
              refine b3 ?_
              by_cases g2 : c = s
              · subst g2; rw [ho]; decide
              · rw [e _ (by omega)] at z; exact z
      have hc2 : ∀ c : Nat, s < c → (c : Int) < updI m (18 + 4 * s) 1 0 → ¬ updI m (18 + 4 * s) 1 (18 + 4 * c) = 1 := fun c a b => by
        rw [e 0 (by omega)] at b
        rw [e _ (by omega)]; exact hc c a b
      have hr := cnt_r (openB (updI m (18 + 4 * s) 1)) (updI m (18 + 4 * s) 1 0).toNat
      obtain ⟨k, m2, a, b, c, d, f⟩ := sh_loopg hC hS (s := s) (by omega) 200 _ B (h.scope (by omega) (by decide)) hsc1 (fun t ht => by rw [e 1 (by omega)] at ht; rw [e _ (by omega)]; exact hnc t ht) hB (by rw [e 0 (by omega)]; exact hs) updI_s hc2 (by have := h.1.2.2.2.1; rw [e 2 (by omega)]; rw [e 0 (by omega)] at hr ⊢; omega)
      obtain ⟨d1, d2, d3, d4, d5⟩ := d
      have f0 : m2 0 = m 0 := (d1 0 (by unfold fat; omega)).trans (e 0 (by omega))
      have hno := lastM_no (m := m2) (s := (s : Int)) (N := (m2 1).toNat) (C := (m2 0).toNat) (by have := b.2.1; omega) f
      have g : ∀ q, ¬ q = 18 + 4 * s → updI m2 (18 + 4 * s) (if s = 0 then 0 else 2) q = m2 q := fun q a => updI_n a
      have rv : InR (if s = 0 then 0 else 2 : Int) := by split <;> decide
      have eqs : (18 + 4 * (s : Int)).toNat = 18 + 4 * s := by omega
      have eqi : (if (s : Int) = 0 then (0 : Int) else 2) = if s = 0 then 0 else 2 := by
        by_cases z : s = 0
        · subst z; rfl
        · rw [if_neg z, if_neg (by omega)]
      obtain ⟨c1, c2, c3⟩ := c
      refine ⟨updI m2 (18 + 4 * s) (if s = 0 then 0 else 2), ⟨hok, ⟨by omega, by omega⟩, Or.inr ⟨openP_nat.mpr ⟨hs, ho⟩, k, m2, by rw [eqs]; exact a, by rw [eqs, eqi]⟩⟩, b.scope (by omega) rv, ?_, ?_, fun _ => updI_s⟩
      · refine ⟨by rw [g _ (by omega)]; exact c1, ?_, fun u hu => ?_⟩
        · by_cases z : s = 0
          · subst z; rw [updI_s]; decide
          · rw [g _ (by omega)]; exact c2
        · rw [g 0 (by omega)] at hu
          obtain ⟨x, y⟩ := c3 u hu
          rw [g (19 + 4 * u) (by omega), g (20 + 4 * u) (by omega), g 6 (by omega)]
          refine ⟨?_, fun h1 => ?_⟩
          · by_cases z : u = s
            · subst z; rw [updI_s]; split <;> decide
            · rw [g _ (by omega)]; exact x
          · obtain ⟨b1, b2, b3⟩ := y h1
            refine ⟨b1, b2, fun z => ?_⟩
            by_cases q : (m2 (19 + 4 * u)).toNat = s
            · rw [q, updI_s]
              by_cases z0 : s = 0
              · rw [if_pos z0]; decide
              · exfalso
                have us : ¬ u = s := by omega
                rw [g _ (by omega)] at z
                have n1 : ¬ m2 (18 + 4 * u) = 0 := fun w => hno.2 u h1 (by omega) ⟨w, by omega, by omega⟩
                have n2 : m2 (18 + 4 * u) = 1 := by omega
                rcases d2 u (by omega) with w | w
                · rw [w] at n2
                  exact hc2 u (by omega) (by rw [e 0 (by omega)]; omega) n2
                · rw [w.2.1] at n2; exact absurd n2 (by decide)
            · rw [g _ (by omega)]
              refine b3 ?_
              by_cases g2 : u = s
              · subst g2
                intro w
                rcases d2 u (by omega) with w2 | w2
                · rw [w2, updI_s] at w; exact absurd w (by decide)
                · rw [updI_s] at w2; exact absurd w2.1 (by decide)
              · rw [g _ (by omega)] at z; exact z
      · refine ⟨fun q hq => ?_, fun u hu => ?_, ?_, fun z => ?_, fun t ht => ?_⟩
        · have q1 : ¬ q = 18 + 4 * s := by
            intro w
            subst w
            rcases hq with w | w | w | w | ⟨-, -, w⟩ | w
            · omega
            · omega
            · omega
            · omega
            · exact w s rfl
            · omega
          rw [g q q1, d1 q hq, e q q1]
        · by_cases z : u = s
          · subst z
            rw [updI_s, ho]
            by_cases z0 : u = 0
            · rw [if_pos z0]; exact Or.inl rfl
            · rw [if_neg z0]; exact Or.inr ⟨rfl, rfl, by omega⟩
          · rw [g _ (by omega)]
            have := d2 u hu
            rw [e _ (by omega)] at this
            exact this
        · rw [e 1 (by omega), e 2 (by omega), e 6 (by omega)] at d3
          rw [g 1 (by omega), g 2 (by omega), g 6 (by omega)]; exact d3
        · have y := d4 (fun t ht => by rw [e 1 (by omega)] at ht; rw [e _ (by omega)]; exact z t ht)
          intro t ht
          rw [g 1 (by omega)] at ht
          rw [g _ (by omega)]; exact y t ht
        · rw [g _ (by omega)]
          have := d5 t ht
          rw [e _ (by omega)] at this
          exact this
    · exact ⟨m, ⟨hok, ⟨by omega, by omega⟩, Or.inl ⟨fun z => ho (openP_nat.mp z).2, rfl⟩⟩, h, hsc, Es.rf, fun z => absurd z ho⟩
theorem over_exg (hPo : poolOk pool) (hCX : CXG cl pool 91) (hSX : SXG sh pool 61) {t : Nat} (ht : t ≤ 9) : ∀ (n : Nat) (m : Nat → Int) (B : Int), Mid m pool B → B ≤ 1900000000 → n ≤ 60 → (∀ k : Nat, k < n → 0 ≤ m (1620 + 72 * t + k) ∧ m (1620 + 72 * t + k) < m 0) → ∃ m', overR (sh) t n m m' ∧ Mid m' pool B ∧ Es m m'
  | 0, m, B, h, _, _, _ => ⟨m, rfl, h, Es.rf⟩
  | n + 1, m, B, h, hB, hn, hs => by
    obtain ⟨h1, h2, h3, h4⟩ := id h
    obtain ⟨s0, s1⟩ := hs n (by omega)
    have k0 := h1.1.2.1
    have es : (((m (1620 + 72 * t + n)).toNat : Nat) : Int) = m (1620 + 72 * t + n) := by omega
    obtain ⟨m1, a, b, c, d, -⟩ := hSX m (m (1620 + 72 * t + n)).toNat B h1 h2 h3 hB (by omega) (by omega) (fun c _ hc => h4 c hc)
    have e0 : m1 0 = m 0 := d.1 0 (Or.inl rfl)
    have st := (d.tk ht).1
    obtain ⟨m', a2, b2, c2⟩ := over_exg hPo hCX hSX ht n m1 B ⟨b, c, d.2.2.2.1 h3, d.ns h4 k0.2⟩ hB (by omega) (fun k hk => by
      rw [st _ (by omega) (by omega) (by omega), e0]
      exact hs k (by omega))
    exact ⟨m', ⟨h1.1.1, m1, by rw [es] at a; exact a, a2⟩, b2, d.tr c2⟩
theorem isOver_exg (hPo : poolOk pool) (hCX : CXG cl pool 91) (hSX : SXG sh pool 61) {m : Nat → Int} {B : Int} {t : Nat} {st : Int} (ht : (t : Int) < m 3) (h : Mid m pool B) (hT : TkM m pool t) (hB : B ≤ 1900000000) (hst : 1 ≤ st ∧ st ≤ 3) : ∃ m', isOverR (sh) t st m m' ∧ Mid m' pool B ∧ TkM m' pool 99 ∧ Es (updI m (1610 + 72 * t) st) m' := by
  have k0 := h.1.1.2.1
  have k3 := h.1.1.2.2.2.2.1
  obtain ⟨b1, -⟩ := hT.2 t ht
  obtain ⟨a1, a2, a3, a4, a5, a6, ⟨n, a7, a8⟩, a9, a10⟩ := id b1
  have e : ∀ q, ¬ q = 1610 + 72 * t → updI m (1610 + 72 * t) st q = m q := fun q a => updI_n a
  have hm : Mid (updI m (1610 + 72 * t) st) pool B := h.out ⟨by omega, by omega⟩ (by omega)
  obtain ⟨m', c1, c2, c3⟩ := over_exg hPo hCX hSX (t := t) (by omega) n _ B hm hB a8.1.2 (fun k hk => by
    rw [e _ (by omega), e 0 (by omega)]
    have := a8.2.1 k hk; omega)
  refine ⟨m', ⟨by omega, n, a8.1.2, a7, c1⟩, c2, ?_, c3⟩
  have hT2 : TkM (updI m (1610 + 72 * t) st) pool 99 := by
    refine ⟨by rw [e 7 (by omega)]; exact hT.1, fun u hu => ?_⟩
    rw [e 3 (by omega)] at hu
    by_cases c : u = t
    · subst c
      refine ⟨?_, fun _ z => ?_⟩
      · unfold tkB
        rw [updI_s, e 8 (by omega), e _ (by omega), e _ (by omega), e _ (by omega), e _ (by omega), e _ (by omega), e _ (by omega), e _ (by omega), e _ (by omega), e _ (by omega), e _ (by omega), e _ (by omega), e _ (by omega)]
        refine ⟨a1, ⟨by omega, by omega⟩, a3, a4, a5, a6, ⟨n, a7, a8.1, fun k hk => ?_, fun k hk => ?_⟩, a9, a10⟩
        · rw [e _ (by omega), e 0 (by omega)]; exact a8.2.1 k hk
        · have z1 := a8.2.1 (k + 1) hk
          rw [e (1620 + 72 * u + (k + 1)) (by omega), e (1620 + 72 * u + k) (by omega), e _ (by omega)]; exact a8.2.2 k hk
      · rw [updI_s] at z; omega
    · obtain ⟨d1, d2⟩ := hT.2 u hu
      have s : sameTk m (updI m (1610 + 72 * t) st) u := ⟨fun q x y z => e q (by omega), Or.inl (e _ (by omega))⟩
      exact ⟨d1.same s (by rw [e 0 (by omega)]; exact Int.le_refl _) k0.2 (by rw [e 7 (by omega)]; exact Int.le_refl _) (by rw [e 8 (by omega)]; exact Int.le_refl _) (fun c h1 h2 => e _ (by omega)), fun _ => (d2 c).same s⟩
  exact hT2.es c3 (by rw [e 3 (by omega)]; omega) (by rw [e 0 (by omega)]; omega)
theorem doesIn_exg (hPo : poolOk pool) (hCX : CXG cl pool 91) (hSX : SXG sh pool 61) {m : Nat → Int} {B : Int} {t p e o o' k : Nat} (ht : (t : Int) < m 3) (h : Mid m pool B) (hT : TkM m pool t) (hB : B ≤ 1800000000) (hn : m (1619 + 72 * t) = (o : Int) + 1) (hK : stepK pool (stsC pool k) o p e o') (he : ¬ dgP (pool e)) (he2 : e ≤ p + 121) (hp : (e : Int) ≤ m 8) :
    ∃ f m', doesInR pool (cl) (sh) m t p f m' ∧ Mid m' pool (B + 1) ∧ TkM m' pool t ∧ InR f ∧ keepT m m' t ∧ (f = 0 → m' (1619 + 72 * t) = (o' : Int) + 1) := by
  obtain ⟨h1, h2, h3, h4⟩ := id h
  obtain ⟨hM, k0, k1, k2, k3, k4, k5, k7⟩ := id h1.1
  have hlt := stepK_lt hK
  have h8 := h1.2.1.2.2
  obtain ⟨b1, -⟩ := hT.2 t ht
  obtain ⟨a1, a2, a3, a4, a5, a6, ⟨n, a7, a8⟩, a9, a10⟩ := id b1
  obtain rfl : n = o + 1 := by omega
  obtain ⟨⟨n1, n2⟩, n3, n4⟩ := id a8
  have top := n3 o (by omega)
  have etop : m (1619 + 72 * t + (o + 1)) = m (1620 + 72 * t + o) := by congr 1; omega
  rcases hK with ⟨hK, rfl⟩ | ⟨hK, -, rfl⟩ | ⟨hK, -, ho⟩
  · have hpk : ¬ pool p = 40 ∧ ¬ pool p = 41 := by
      rcases hK with (z | z | z | z | z | z | z) | z
      all_goals (have := z.1; constructor <;> omega)
    obtain ⟨f, m', a, b, c, d⟩ := stepQ_exg (s2 := m (1619 + 72 * t + (o' + 1))) hPo hCX h1 (by omega) (by rw [h3.cnt k1.1]; omega) (hM _) hK he he2 hp
    have ces := c.es
    exact ⟨f, m', ⟨h1.1, by omega, by omega, o' + 1, n2, a7, Or.inr (Or.inr ⟨hpk.1, hpk.2, a⟩)⟩, ⟨b, c.sc h2 k0.2, ces.2.2.2.1 h3, ces.ns h4 k0.2⟩, hT.es ces k3.2 k0.2, d, ces.kt (by omega), fun _ => by rw [(ces.tk (t := t) (by omega)).1 _ (by omega) (by omega) (by omega)]; exact hn⟩
  · by_cases c6 : m 0 = 60
    · exact ⟨107, m, ⟨h1.1, by omega, by omega, o + 1, n2, a7, Or.inl ⟨hK, Or.inl ⟨c6, rfl, rfl⟩⟩⟩, h.up (by omega), hT, by decide, ⟨rfl, rfl, ⟨rfl, Int.le_refl _⟩, fun _ _ _ _ => rfl⟩, fun z => absurd z (by decide)⟩
    · by_cases co : openP m (m (1619 + 72 * t + (o + 1)))
      · have es : (((m (1620 + 72 * t + o)).toNat : Nat) : Int) = m (1620 + 72 * t + o) := by omega
        have eC : (((m 0).toNat : Nat) : Int) = m 0 := by omega
        have hp0 : m (18 + 4 * (m (1620 + 72 * t + o)).toNat) = 0 := by
          have := co.2.2
          rw [etop] at this
          rw [← this]; congr 1; omega
        have mo := mid_opens h (C := (m 0).toNat) (p := (m (1620 + 72 * t + o)).toNat) (t := (t : Int)) (by omega) (by omega) (by omega) hp0 ⟨by omega, by omega⟩ (by omega)
        rw [es, ← etop] at mo
        obtain ⟨o0, o1, o2, o3, o4, o6, oe⟩ := opensM_at (m := m) (C := (m 0).toNat) (p := m (1619 + 72 * t + (o + 1))) (t := (t : Int))
        have mm := (mo.out (k := 1620 + 72 * t + (o + 1)) (v := m 0) ⟨by omega, by omega⟩ (by omega)).out (k := 1619 + 72 * t) (v := ((o + 1 : Nat) : Int) + 1) ⟨by omega, by omega⟩ (by omega)
        have ev : ∀ q, ¬ q = 1619 + 72 * t → ¬ q = 1620 + 72 * t + (o + 1) → updI (updI (opensM m (m 0).toNat (m (1619 + 72 * t + (o + 1))) t) (1620 + 72 * t + (o + 1)) (m 0)) (1619 + 72 * t) (((o + 1 : Nat) : Int) + 1) q = opensM m (m 0).toNat (m (1619 + 72 * t + (o + 1))) t q := fun q a b => by rw [updI_n a, updI_n b]
        have oo : o + 1 < 59 := by omega
        refine ⟨0, _, ⟨h1.1, by omega, by omega, o + 1, n2, a7, Or.inl ⟨hK, Or.inr (Or.inr ⟨c6, co, rfl, rfl⟩)⟩⟩, mm, ⟨?_, fun u hu => ?_⟩, by decide, ⟨?_, ?_, ?_, fun q x y z => ?_⟩, fun _ => updI_s⟩
        · rw [ev 7 (by omega) (by omega), oe 7 (by omega) (by omega) (by omega)]; exact hT.1
        · rw [ev 3 (by omega) (by omega), oe 3 (by omega) (by omega) (by omega)] at hu
          by_cases c : u = t
          · subst c
            refine ⟨?_, fun z => absurd rfl z⟩
            have ow : ∀ q, 1608 + 72 * u ≤ q → ¬ q = 1619 + 72 * u → ¬ q = 1620 + 72 * u + (o + 1) → updI (updI (opensM m (m 0).toNat (m (1619 + 72 * u + (o + 1))) u) (1620 + 72 * u + (o + 1)) (m 0)) (1619 + 72 * u) (((o + 1 : Nat) : Int) + 1) q = m q := fun q a b c => by rw [ev q b c, oe q (by omega) (by omega) (by omega)]
            unfold tkB
            rw [ow (1609 + 72 * u) (by omega) (by omega) (by omega), ow (1610 + 72 * u) (by omega) (by omega) (by omega), ow (1614 + 72 * u) (by omega) (by omega) (by omega), ow (1612 + 72 * u) (by omega) (by omega) (by omega), ow (1613 + 72 * u) (by omega) (by omega) (by omega), ow (1615 + 72 * u) (by omega) (by omega) (by omega), ow (1608 + 72 * u) (by omega) (by omega) (by omega), ow (1620 + 72 * u) (by omega) (by omega) (by omega), ow (1611 + 72 * u) (by omega) (by omega) (by omega), ow (1616 + 72 * u) (by omega) (by omega) (by omega), ow (1617 + 72 * u) (by omega) (by omega) (by omega), ev 7 (by omega) (by omega), oe 7 (by omega) (by omega) (by omega), ev 8 (by omega) (by omega), oe 8 (by omega) (by omega) (by omega), updI_s]
            refine ⟨a1, a2, a3, a4, a5, a6, ⟨o + 1 + 1, by omega, ⟨⟨by omega, by omega⟩, fun j hj => ?_, fun j hj => ?_⟩⟩, a9, a10⟩
            · rw [ev 0 (by omega) (by omega), o0]
              by_cases cj : j = o + 1
              · subst cj
                rw [updI_n (by omega), updI_s]; omega
              · rw [ow _ (by omega) (by omega) (by omega)]
                have := n3 j (by omega); omega
            · by_cases cj : j = o
              · subst cj
                rw [show updI (updI (opensM m (m 0).toNat (m (1619 + 72 * u + (j + 1))) u) (1620 + 72 * u + (j + 1)) (m 0)) (1619 + 72 * u) (((j + 1 : Nat) : Int) + 1) (1620 + 72 * u + (j + 1)) = m 0 by rw [updI_n (by omega), updI_s], ow (1620 + 72 * u + j) (by omega) (by omega) (by omega), ev _ (by omega) (by omega), o2, etop]
              · have z1 := n3 (j + 1) (by omega)
                rw [ow (1620 + 72 * u + (j + 1)) (by omega) (by omega) (by omega), ow (1620 + 72 * u + j) (by omega) (by omega) (by omega), ev _ (by omega) (by omega), oe _ (by omega) (by omega) (by omega)]
                exact n4 j (by omega)
          · obtain ⟨d1, d2⟩ := hT.2 u hu
            have s : sameTk m (updI (updI (opensM m (m 0).toNat (m (1619 + 72 * t + (o + 1))) t) (1620 + 72 * t + (o + 1)) (m 0)) (1619 + 72 * t) (((o + 1 : Nat) : Int) + 1)) u := ⟨fun q x y z => by rw [ev q (by omega) (by omega), oe q (by omega) (by omega) (by omega)], Or.inl (by rw [ev _ (by omega) (by omega), oe _ (by omega) (by omega) (by omega)])⟩
            exact ⟨d1.same s (by rw [ev 0 (by omega) (by omega), o0]; omega) k0.2 (by rw [ev 7 (by omega) (by omega), oe 7 (by omega) (by omega) (by omega)]; exact Int.le_refl _) (by rw [ev 8 (by omega) (by omega), oe 8 (by omega) (by omega) (by omega)]; exact Int.le_refl _) (fun c x y => by rw [ev _ (by omega) (by omega), oe _ (by omega) (by omega) (by omega)]), fun z => (d2 c).same s⟩
        · rw [ev 3 (by omega) (by omega), oe 3 (by omega) (by omega) (by omega)]
        · rw [ev 7 (by omega) (by omega), oe 7 (by omega) (by omega) (by omega)]
        · rw [ev 8 (by omega) (by omega), oe 8 (by omega) (by omega) (by omega), ev 1 (by omega) (by omega), oe 1 (by omega) (by omega) (by omega)]; exact ⟨rfl, Int.le_refl _⟩
        · rw [ev q (by omega) (by omega), oe q (by omega) (by omega) (by omega)]
      · exact ⟨101, m, ⟨h1.1, by omega, by omega, o + 1, n2, a7, Or.inl ⟨hK, Or.inr (Or.inl ⟨c6, co, rfl, rfl⟩)⟩⟩, h.up (by omega), hT, by decide, ⟨rfl, rfl, ⟨rfl, Int.le_refl _⟩, fun _ _ _ _ => rfl⟩, fun z => absurd z (by decide)⟩
  · subst ho
    have e1 : ∀ q, ¬ q = 1619 + 72 * t → updI m (1619 + 72 * t) (((o' + 1 + 1 : Nat) : Int) - 1) q = m q := fun q a => updI_n a
    have mm : Mid (updI m (1619 + 72 * t) (((o' + 1 + 1 : Nat) : Int) - 1)) pool B := h.out ⟨by omega, by omega⟩ (by omega)
    have hT2 : TkM (updI m (1619 + 72 * t) (((o' + 1 + 1 : Nat) : Int) - 1)) pool t := by
      refine ⟨by rw [e1 7 (by omega)]; exact hT.1, fun u hu => ?_⟩
      rw [e1 3 (by omega)] at hu
      by_cases c : u = t
      · subst c
        refine ⟨?_, fun z => absurd rfl z⟩
        unfold tkB
        rw [updI_s, e1 8 (by omega), e1 _ (by omega), e1 _ (by omega), e1 _ (by omega), e1 _ (by omega), e1 _ (by omega), e1 _ (by omega), e1 _ (by omega), e1 _ (by omega), e1 _ (by omega), e1 _ (by omega), e1 _ (by omega), e1 _ (by omega)]
        refine ⟨a1, a2, a3, a4, a5, a6, ⟨o' + 1, by omega, ⟨⟨by omega, by omega⟩, fun j hj => ?_, fun j hj => ?_⟩⟩, a9, a10⟩
        · rw [e1 _ (by omega), e1 0 (by omega)]; exact n3 j (by omega)
        · have z1 := n3 (j + 1) (by omega)
          rw [e1 (1620 + 72 * u + (j + 1)) (by omega), e1 (1620 + 72 * u + j) (by omega), e1 _ (by omega)]; exact n4 j (by omega)
      · obtain ⟨d1, d2⟩ := hT.2 u hu
        have s : sameTk m (updI m (1619 + 72 * t) (((o' + 1 + 1 : Nat) : Int) - 1)) u := ⟨fun q x y z => e1 q (by omega), Or.inl (e1 _ (by omega))⟩
        exact ⟨d1.same s (by rw [e1 0 (by omega)]; exact Int.le_refl _) k0.2 (by rw [e1 7 (by omega)]; exact Int.le_refl _) (by rw [e1 8 (by omega)]; exact Int.le_refl _) (fun c x y => e1 _ (by omega)), fun _ => (d2 c).same s⟩
    have es : (((m (1620 + 72 * t + (o' + 1))).toNat : Nat) : Int) = m (1620 + 72 * t + (o' + 1)) := by omega
    obtain ⟨m', a, b, c, d, -⟩ := hSX _ (m (1620 + 72 * t + (o' + 1))).toNat B mm.1 mm.2.1 mm.2.2.1 (by omega) (by omega) (by rw [e1 0 (by omega)]; omega) (fun c _ hc => mm.2.2.2 c hc)
    rw [es, ← etop] at a
    have kt := d.kt (t := t) (by omega)
    refine ⟨0, m', ⟨h1.1, by omega, by omega, o' + 1 + 1, n2, a7, Or.inr (Or.inl ⟨hK, rfl, a⟩)⟩, ⟨b.up (by omega), c, d.2.2.2.1 mm.2.2.1, d.ns mm.2.2.2 (by rw [e1 0 (by omega)]; omega)⟩, hT2.es d (by rw [e1 3 (by omega)]; omega) (by rw [e1 0 (by omega)]; omega), by decide, ⟨kt.1.trans (e1 3 (by omega)), kt.2.1.trans (e1 7 (by omega)), ⟨kt.2.2.1.1.trans (e1 8 (by omega)), by have := kt.2.2.1.2; rw [e1 1 (by omega)] at this; exact this⟩, fun q x y z => (kt.2.2.2 q x y z).trans (e1 q (by omega))⟩, fun _ => ?_⟩
    rw [(d.tk (t := t) (by omega)).1 _ (by omega) (by omega) (by omega), updI_s]
    omega
theorem turnFin_exg (hPo : poolOk pool) (hCX : CXG cl pool 91) (hSX : SXG sh pool 61) {m : Nat → Int} {B : Int} {t o p E : Nat} (ht : (t : Int) < m 3) (h : Mid m pool B) (hT : TkM m pool t) (hB : B ≤ 1800000000) (hn : m (1619 + 72 * t) = (o : Int) + 1) (hE : m (1617 + 72 * t) = E) (hp : p ≤ 12343) (hr : p < E → ∃ P : Nat, m (1616 + 72 * t) = P ∧ P ≤ p ∧ m (1615 + 72 * t) ≤ (p : Int) - P ∧ ∃ k, stsT pool k o p E) :
    ∃ m', turnFinR (sh) t E m p m' ∧ Aft m m' pool B := by
  obtain ⟨hM, k0, k1, k2, k3, k4, k5, k7⟩ := id h.1.1
  have e : ∀ q, ¬ q = 1611 + 72 * t → updI m (1611 + 72 * t) p q = m q := fun q a => updI_n a
  have hm : Mid (updI m (1611 + 72 * t) p) pool B := h.out ⟨by omega, by omega⟩ (by omega)
  have hb : tkB (updI m (1611 + 72 * t) p) pool t := by
    obtain ⟨a1, a2, a3, a4, a5, a6, ⟨n, a7, a8⟩, a9, a10⟩ := (hT.2 t ht).1
    unfold tkB
    rw [updI_s, e 8 (by omega), e _ (by omega), e _ (by omega), e _ (by omega), e _ (by omega), e _ (by omega), e _ (by omega), e _ (by omega), e _ (by omega), e _ (by omega), e _ (by omega), e _ (by omega), e _ (by omega)]
    refine ⟨a1, a2, a3, a4, a5, a6, ⟨n, a7, a8.1, fun k hk => ?_, fun k hk => ?_⟩, ⟨p, rfl, hp⟩, a10⟩
    · rw [e _ (by omega), e 0 (by omega)]; exact a8.2.1 k hk
    · have z1 := a8.2.1 (k + 1) hk
      rw [e (1620 + 72 * t + (k + 1)) (by omega), e (1620 + 72 * t + k) (by omega), e _ (by omega)]; exact a8.2.2 k hk
  have hT2 : TkM (updI m (1611 + 72 * t) p) pool t := hT.step (e 3 (by omega)) (e 0 (by omega)) k0.2 k3.2 (by rw [e 7 (by omega)]; exact Int.le_refl _) (by rw [e 8 (by omega)]; exact Int.le_refl _) (fun c _ hc => e _ (by omega)) (fun u hu hu9 => ⟨fun q a b c => e q (by omega), Or.inl (e _ (by omega))⟩) (fun _ => hb)
  by_cases c : p < E
  · refine ⟨_, ⟨h.1.1, hp, Or.inl ⟨c, rfl⟩⟩, hm, ⟨hT2.1, fun u hu => ⟨(hT2.2 u hu).1, fun _ => ?_⟩⟩, e 3 (by omega), e 7 (by omega), ⟨e 8 (by omega), by rw [e 1 (by omega)]; exact Int.le_refl _⟩⟩
    by_cases q : u = t
    · subst q
      intro _
      obtain ⟨P, r1, r2, r3, r4⟩ := hr c
      exact ⟨o, P, E, p, by rw [e _ (by omega)]; exact hn, by rw [e _ (by omega)]; exact r1, by rw [e _ (by omega)]; exact hE, updI_s, r2, by rw [e _ (by omega)]; exact r3, r4⟩
    · exact (hT2.2 u hu).2 q
  · obtain ⟨m', x1, x2, x3, x4⟩ := isOver_exg hPo hCX hSX (st := if cnt (faultB m t) (m 4).toNat = 0 then 1 else 2) (by rw [e 3 (by omega)]; exact ht) hm hT2 (by omega) (by split <;> decide)
    refine ⟨m', ⟨h.1.1, hp, Or.inr ⟨by omega, x1⟩⟩, x2, x3, ?_, ?_, ?_⟩
    · rw [x4.1 3 (Or.inr (Or.inl rfl)), updI_n (by omega), e 3 (by omega)]
    · rw [x4.1 7 (Or.inr (Or.inr (Or.inl rfl))), updI_n (by omega), e 7 (by omega)]
    · have y := x4.2.2.1.1
      rw [updI_n (by omega), e 1 (by omega)] at y
      rw [x4.1 8 (Or.inr (Or.inr (Or.inr (Or.inl rfl)))), updI_n (by omega), e 8 (by omega)]; exact ⟨rfl, y⟩
end EXG

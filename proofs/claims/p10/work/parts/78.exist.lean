/-! ===== every closing comes to its end ===== -/
theorem hbL_held {m rc : Nat → Int} {fr to : Nat} : ∀ n t : Nat, 0 ≤ hbL m rc fr to n t → m (258 + 14 * (hbL m rc fr to n t).toNat) = 0 ∧ hbL m rc fr to n t < t + n
  | 0, t, h => by unfold hbL at h; omega
  | n + 1, t, h => by
    unfold hbL at h ⊢
    split
    · rename_i c
      have := c.1
      simp only [heldB, decide_eq_true_eq] at this
      rw [Int.toNat_natCast]
      exact ⟨this, by omega⟩
    · rename_i c
      rw [if_neg c] at h
      have := hbL_held n (t + 1) h
      exact ⟨this.1, by omega⟩
def poolOk (pool : Nat → Int) : Prop := ∀ q, 0 ≤ pool q ∧ pool q ≤ 127
theorem poolOk.r {pool : Nat → Int} (h : poolOk pool) (q : Nat) : InR (pool q) := by have := h q; exact ⟨by omega, by omega⟩
def CX (pool : Nat → Int) (sink : Int) (n : Nat) : Prop := ∀ (m : Nat → Int) (t : Nat) (B : Int), Inv m pool B → B + 130 * n ≤ 2000000000 → 91 ≤ n + cnt (cngB m) (m 1).toNat → (t : Int) < m 1 → m (258 + 14 * t) = 0 →
  ∃ m', closesR pool sink n m t m' ∧ Inv m' pool B ∧ Ev m m' ∧ m 2 < m' 2 ∧ m' (258 + 14 * t) = 2
section EX
variable {pool : Nat → Int} {sink : Int} {n : Nat} {m : Nat → Int} {B s2 : Int} {k p e : Nat}
theorem stepT_ex (hPo : poolOk pool) (hC : CX pool sink n) (h : Inv m pool B) (hB : B + 130 * n + 2 ≤ 2000000000) (hn : 91 ≤ n + cnt (cngB m) (m 1).toNat) (hs : InR s2) (hT : stepT pool (stsC pool k) p e) (he : ¬ dgP (pool e)) (he2 : e ≤ p + 121) (hp : (e : Int) ≤ m 8) :
    ∃ f m', stpR pool (closesR pool sink n) m p s2 f m' ∧ Inv m' pool (B + 1) ∧ Ev m m' ∧ InR f := by
  have hlt := stepT_lt hT
  have hok := h.1
  have h8 := h.2.1.2.2
  obtain ⟨hM, k0, k1, k2, k3, k4, k5, k7⟩ := id hok
  have h1 : Inv m pool (B + 1) := h.up (by omega)
  rcases hT with ⟨hk, hc, hq, hv⟩ | ⟨hk, hv⟩ | ⟨hk, q, hq, hx⟩ | ⟨hk, hq⟩ | ⟨hk, q, hq, hq2, hv⟩ | ⟨hk, hc, rfl⟩ | ⟨hk, rfl⟩
  · obtain ⟨d1, d2⟩ := sgn_dig hv he
    exact ⟨0, _, ⟨hok, hs, by omega, Or.inl ⟨hk, hc, rfl, 20, d1, rfl⟩⟩, h1.out (wrap_r _) (by omega) (by omega), Ev.out (by unfold far; omega) (by omega) (by omega) k1.2 (Or.inl (by omega)), by decide⟩
  · obtain ⟨d1, d2⟩ := num_dig hv (by decide) he
    exact ⟨_, m, ⟨hok, hs, by omega, Or.inr (Or.inl ⟨hk, rfl, 20, d1, rfl⟩)⟩, h1, Ev.rf, ⟨by omega, by omega⟩⟩
  · have hne := nam_end hq
    obtain ⟨q1, q2, q3, q4⟩ := id hq
    have hft : ∃ P E : Nat, ftF pool 130 q = ((P : Int), (E : Int)) ∧ textT (m 8) pool P E ∧ (pool q = 123 → brStop pool 130 (q + 1) 1) := by
      rcases hx with ⟨rfl, hx⟩ | ⟨hx, r, hr, hr2, hr3, rfl⟩
      · exact ⟨e, e, by unfold ftF; rw [if_neg hx], ⟨Nat.le_refl _, by omega, Or.inl ⟨rfl, by omega⟩⟩, fun z => absurd z hx⟩
      · obtain ⟨b1, b2⟩ := (stsC_skip k _ _ hr).br (n := 130) hr3 (by omega)
        exact ⟨q + 1, r, by unfold ftF; rw [if_pos hx, b1]; congr 1; omega, ⟨hr2, by omega, Or.inr ⟨by omega, k, hr⟩⟩, fun _ => b2⟩
    obtain ⟨P, E, hf, ht, hb⟩ := hft
    refine ⟨takenV m pool (m 1).toNat (p + 1) q s2, takenM m pool (m 1).toNat 130 (p + 1) q s2, ⟨hok, hs, by omega, Or.inr (Or.inr (Or.inl ⟨hk, 130, by omega, ?_, ?_, ?_⟩))⟩, ?_⟩
    · rw [hne]; exact hb
    · rw [hne]
    · rw [hne]
    · have hr : InR (takenV m pool (m 1).toNat (p + 1) q s2) := by unfold takenV; split <;> (try split) <;> (try split) <;> decide
      by_cases z : takenV m pool (m 1).toNat (p + 1) q s2 = 0
      · have z2 := z
        unfold takenV at z2
        split at z2
        · rename_i ho
          split at z2
          · exact absurd z2 (by decide)
          · split at z2
            · exact absurd z2 (by decide)
            · rename_i h9
              have y := inv_take (rc := pool) h (N := (m 1).toNat) (fr := p + 1) (to := q) (o := s2) (P := P) (E := E) (by omega) (by omega) ⟨ho.1, by omega⟩ (by omega) (by omega) hPo.r q3 ht (by omega)
              unfold takenM
              rw [if_pos z, hf]
              exact ⟨y.1, y.2, hr⟩
        · exact absurd z2 (by decide)
      · unfold takenM
        rw [if_neg z]
        exact ⟨h1, Ev.rf, hr⟩
  · have hne := nam_end hq
    by_cases z : hbL m pool (p + 1) e (m 1).toNat 0 < 0
    · exact ⟨104, m, ⟨hok, hs, by omega, Or.inr (Or.inr (Or.inr (Or.inl ⟨hk, Or.inl ⟨by rw [hne]; exact z, rfl, rfl⟩⟩)))⟩, h1, Ev.rf, by decide⟩
    · obtain ⟨y1, y2⟩ := hbL_held (m := m) (rc := pool) (fr := p + 1) (to := e) (m 1).toNat 0 (by omega)
      obtain ⟨m', c1, c2, c3, -, -⟩ := hC m _ B h (by omega) hn (by omega) y1
      exact ⟨0, m', ⟨hok, hs, by omega, Or.inr (Or.inr (Or.inr (Or.inl ⟨hk, Or.inr ⟨by rw [hne]; omega, rfl, by rw [hne]; exact c1⟩⟩)))⟩, c2.up (by omega), c3, by decide⟩
  · have hne := nam_end hq
    have q1 := hq.1
    obtain ⟨d1, d2⟩ := num_dig hv (by decide) he
    have hnr : InR (numAt pool 20 (q + 1)) := ⟨by omega, by omega⟩
    by_cases z : hbL m pool (p + 1) q (m 1).toNat 0 < 0
    · exact ⟨104, m, ⟨hok, hs, by omega, Or.inr (Or.inr (Or.inr (Or.inr (Or.inl ⟨hk, 20, by rw [hne]; exact d1, by rw [hne]; exact hnr, Or.inl ⟨by rw [hne]; exact z, rfl, rfl⟩⟩))))⟩, h1, Ev.rf, by decide⟩
    · by_cases ho : openP m (numAt pool 20 (q + 1))
      · obtain ⟨y1, y2⟩ := hbL_held (m := m) (rc := pool) (fr := p + 1) (to := q) (m 1).toNat 0 (by omega)
        have y := inv_move h (t := (hbL m pool (p + 1) q (m 1).toNat 0).toNat) (s := numAt pool 20 (q + 1)) (by omega) ⟨ho.1, by omega⟩ (by omega)
        exact ⟨0, _, ⟨hok, hs, by omega, Or.inr (Or.inr (Or.inr (Or.inr (Or.inl ⟨hk, 20, by rw [hne]; exact d1, by rw [hne]; exact hnr, Or.inr (Or.inr ⟨by rw [hne]; omega, by rw [hne]; exact ho, rfl, by rw [hne]⟩)⟩))))⟩, y.1, y.2, by decide⟩
      · exact ⟨105, m, ⟨hok, hs, by omega, Or.inr (Or.inr (Or.inr (Or.inr (Or.inl ⟨hk, 20, by rw [hne]; exact d1, by rw [hne]; exact hnr, Or.inr (Or.inl ⟨by rw [hne]; omega, by rw [hne]; exact ho, rfl, rfl⟩)⟩))))⟩, h1, Ev.rf, by decide⟩
  · refine ⟨_, _, ⟨hok, hs, by omega, Or.inr (Or.inr (Or.inr (Or.inr (Or.inr (Or.inl ⟨hk, hc, rfl, rfl⟩)))))⟩, ?_⟩
    have hc' : 48 ≤ pool (p + 1) ∧ pool (p + 1) ≤ 57 := hc
    by_cases z : pool (p + 1) - 48 ≤ m 3 - 1 ∧ m (1610 + 72 * (pool (p + 1) - 48)).toNat = 0
    · rw [if_pos z, if_pos z]
      exact ⟨h1.out (by decide) (by omega) (by omega), Ev.out (fun w => by
        unfold far at w
        rcases w with w | w | w | w | w | ⟨-, -, w⟩
        · omega
        · omega
        · omega
        · omega
        · omega
        · exact w (pool (p + 1) - 48).toNat (by omega)) (by omega) (by omega) k1.2 (Or.inr rfl), by decide⟩
    · rw [if_neg z, if_neg z]
      exact ⟨h1, Ev.rf, by decide⟩
  · exact ⟨0, m, ⟨hok, hs, by omega, Or.inr (Or.inr (Or.inr (Or.inr (Or.inr (Or.inr ⟨by rw [hk]; decide, rfl, rfl⟩)))))⟩, h1, Ev.rf, by decide⟩
theorem stepQ_ex (hPo : poolOk pool) (hC : CX pool sink n) (h : Inv m pool B) (hB : B + 130 * n + 2 ≤ 2000000000) (hn : 91 ≤ n + cnt (cngB m) (m 1).toNat) (hs : InR s2) (hT : stepQ pool (stsC pool k) p e) (he : ¬ dgP (pool e)) (he2 : e ≤ p + 121) (hp : (e : Int) ≤ m 8) :
    ∃ f m', doesR pool (closesR pool sink n) m p s2 f m' ∧ Inv m' pool (B + 1) ∧ Ev m m' ∧ InR f := by
  rcases hT with hT | ⟨hk, hc, hq, q, hv, hq2, hT⟩
  · obtain ⟨f, m', a, b, c, d⟩ := stepT_ex hPo hC h hB hn hs hT he he2 hp
    exact ⟨f, m', Or.inl a, b, c, d⟩
  · have h8 := h.2.1.2.2
    have hl := sgnS_lt hv
    have hl2 := stepT_lt hT
    have nd : ¬ dgP (pool q) := by rw [hq2]; decide
    obtain ⟨d1, d2⟩ := sgn_dig hv nd
    have hnc : ∀ j, p + 3 ≤ j → j < q → ¬ pool j = 58 := by
      intro j a b
      rcases hv with ⟨v0, v1, v2, v3⟩ | ⟨v1, v2, v3⟩
      · by_cases z : j = p + 3
        · subst z; rw [v0]; decide
        · have := v3 j (by omega) b
          unfold dgP at this; omega
      · have := v3 j a b
        unfold dgP at this; omega
    have hnr : InR (numAt pool 20 (p + 3)) := ⟨by omega, by omega⟩
    by_cases z : m (10 + pool (p + 1) - 48).toNat < numAt pool 20 (p + 3)
    · obtain ⟨f, m', a, b, c, d⟩ := stepT_ex hPo hC h hB hn hs hT he (by omega) hp
      exact ⟨f, m', Or.inr ⟨hk, h.1, hs, by omega, hc, 20, q, d1, by omega, hq2, hnc, hnr, Or.inl ⟨z, a⟩⟩, b, c, d⟩
    · exact ⟨0, m, Or.inr ⟨hk, h.1, hs, by omega, hc, 20, q, d1, by omega, hq2, hnc, hnr, Or.inr ⟨z, rfl, rfl⟩⟩, h.up (by omega), Ev.rf, by decide⟩
end EX
theorem loop_ex {pool : Nat → Int} {sink : Int} {n : Nat} (hPo : poolOk pool) (hC : CX pool sink n) {t P E : Nat} (hPE : E ≤ P + 120) : ∀ (k : Nat) (m : Nat → Int) (B : Int) (p : Nat), P ≤ p → (E : Int) ≤ m 8 → Inv m pool B → B + 130 * n + 2 + (E - p : Nat) ≤ 2000000000 → 91 ≤ n + cnt (cngB m) (m 1).toNat → stsC pool k p E →
    ∃ f m', loopR pool (doesR pool (closesR pool sink n)) t E k m p f m' ∧ Inv m' pool (B + (E - p : Nat)) ∧ Ev m m' ∧ InR f
  | 0, m, B, p, _, _, _, _, _, hT => absurd hT id
  | k + 1, m, B, p, hP, hE, h, hB, hn, hT => by
    obtain ⟨e, t1, t2, t3⟩ := hT
    have hlt := stepQ_lt t1
    have heE : e ≤ E := by rcases t3 with t3 | ⟨t3, _⟩ <;> omega
    have hbe := (stepQ_skip (fun a b => stsC_skip k a b) t1).beh (E := E) heE (by rcases t3 with t3 | ⟨_, t3, _⟩; exact Or.inl t3; exact Or.inr t3)
    obtain ⟨f, m1, a, b, c, d⟩ := stepQ_ex (s2 := m (259 + 14 * t)) hPo hC h (by omega) hn (h.1.1 _) t1 (endC_nd t2) (by omega) (by omega)
    by_cases z : f = 0
    · subst z
      rcases t3 with rfl | ⟨t3, t4, t5⟩
      · refine ⟨0, m1, Or.inr ⟨by omega, 0, m1, a, d, Or.inr ⟨rfl, ?_⟩⟩, b.up (by omega), c, by decide⟩
        rw [hbe]
        cases k with
        | zero => exact ⟨by omega, rfl, rfl⟩
        | succ k => exact Or.inl ⟨by omega, rfl, rfl⟩
      · obtain ⟨f2, m2, a2, b2, c2, d2⟩ := loop_ex hPo hC hPE k m1 (B + 1) (e + 1) (by omega) (by rw [c.1 8 (by unfold far; omega)]; exact hE) b (by omega) (by rw [c.cng h.1.2.2.1.1]; exact hn) t5
        refine ⟨f2, m2, Or.inr ⟨by omega, 0, m1, a, d, Or.inr ⟨rfl, ?_⟩⟩, b2.up (by omega), c.tr c2, d2⟩
        rw [hbe]
        exact a2
    · exact ⟨f, m1, Or.inr ⟨by omega, f, m1, a, d, Or.inl ⟨z, rfl, rfl⟩⟩, b.up (by omega), c, d⟩
theorem cnt_cl_cng {m : Nat → Int} {N t : Nat} (h : t < N) (h0 : m (258 + 14 * t) = 0) : cnt (cngB m) N < N := cnt_lt (decide_eq_false (by rw [h0]; decide)) N h
theorem closes_ex {pool : Nat → Int} (hPo : poolOk pool) {sink : Int} (hs : InR sink) : ∀ n : Nat, CX pool sink n
  | 0 => fun m t B h hB hn ht h0 => by
    have k1 := h.1.2.2.1
    have := cnt_cl_cng (m := m) (N := (m 1).toNat) (t := t) (by omega) h0
    omega
  | n + 1 => fun m t B h hB hn ht h0 => by
    have k1 := h.1.2.2.1
    obtain ⟨i1, i2⟩ := inv_cng h ht h0
    have q : ∀ q, ¬ q = 258 + 14 * t → updI m (258 + 14 * t) 1 q = m q := fun q a => updI_n a
    obtain ⟨z1, z2, z3, P, E, e1, e2, hx⟩ := h.2.2.1 t ht
    have x1 := hx.le h.2.1.2.2
    obtain ⟨x2, x3, x4⟩ := hx
    have hl : ∃ k f m2, loopR pool (doesR pool (closesR pool sink n)) t E k (updI m (258 + 14 * t) 1) P f m2 ∧ Inv m2 pool (B + 120) ∧ Ev (updI m (258 + 14 * t) 1) m2 ∧ InR f := by
      rcases x4 with ⟨rfl, -⟩ | ⟨x5, k, x4⟩
      · exact ⟨0, 0, _, ⟨Nat.le_refl _, rfl, rfl⟩, i1.up (by omega), Ev.rf, by decide⟩
      · obtain ⟨f, m2, a, b, c, d⟩ := loop_ex hPo (closes_ex hPo hs n) (t := t) (P := P) x3 k _ B P (Nat.le_refl _) (by rw [q 8 (by omega)]; omega) i1 (by omega) (by rw [q 1 (by omega), i2]; omega) x4
        exact ⟨k, f, m2, a, b.up (by omega), c, d⟩
    obtain ⟨k, f, m2, l1, l2, l3, l4⟩ := hl
    obtain ⟨v1, v2, v3, v4, v5, v6⟩ := l3
    rw [q 1 (by omega)] at v2
    rw [q 2 (by omega), q 6 (by omega)] at v3
    have ht2 : (t : Int) < m2 1 := by omega
    have hc2 : m2 (258 + 14 * t) = 1 := ((v4 t (by rw [q 1 (by omega)]; exact ht)).2.2.1).mpr updI_s
    obtain ⟨g1, g2, g3, g4⟩ := inv_close l2 ht2 hc2 hs l4
    obtain ⟨lt1, lt2, lt3, lt4⟩ := l2.lt ht2 (by rw [hc2]; decide)
    refine ⟨_, ⟨h.1, by omega, Or.inr ⟨h0, P, E, k, f, m2, e1, e2, by omega, by omega, l1, l2.1, l4, by omega, by omega, by omega, rfl⟩⟩, g1.up (by omega), ⟨?_, ?_, ?_, ?_, ?_, ?_⟩, by omega, g3⟩
    · intro c hc
      rw [g4 c (by unfold far at hc; omega) (by unfold far at hc; omega) (by unfold far at hc; omega) (by unfold far at hc; omega) (by unfold far at hc; omega) (by unfold far at hc; omega), v1 c hc, q c (by unfold far at hc; omega)]
    · rw [g4 1 (by omega) (by omega) (by omega) (by omega) (by omega) (by omega)]; exact v2
    · rw [g4 6 (by omega) (by omega) (by omega) (by omega) (by omega) (by omega)]; omega
    · intro u hu
      have w := v4 u (by rw [q 1 (by omega)]; exact hu)
      rw [q _ (by omega), q _ (by omega)] at w
      rw [g4 (262 + 14 * u) (by omega) (by omega) (by omega) (by omega) (by omega) (by omega), g4 (263 + 14 * u) (by omega) (by omega) (by omega) (by omega) (by omega) (by omega)]
      refine ⟨w.1, w.2.1, ?_⟩
      by_cases c : u = t
      · subst c
        rw [g3, h0]
        exact ⟨by decide, fun z => absurd z (by decide)⟩
      · rw [q (258 + 14 * u) (by omega)] at w
        rw [g4 (258 + 14 * u) (by omega) (by omega) (by omega) (by omega) (by omega) (by omega)]
        exact w.2.2
    · intro u a b
      rw [g4 1 (by omega) (by omega) (by omega) (by omega) (by omega) (by omega)] at b
      have k12 := l2.1.2.2.1
      rw [g4 (258 + 14 * u) (by omega) (by omega) (by omega) (by omega) (by omega) (by omega)]
      exact v5 u (by rw [q 1 (by omega)]; exact a) b
    · intro u hu
      rw [g4 _ (by omega) (by omega) (by omega) (by omega) (by omega) (by omega)]
      have := v6 u hu
      rw [q _ (by omega)] at this
      exact this

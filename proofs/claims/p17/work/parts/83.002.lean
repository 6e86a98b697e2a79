theorem all_rename {m pool tape : Nat → Int} {B T f11 f12 : Int} {len : Nat} {t : Nat} (h : All m pool B T) (hb : bytesOk tape) (h11 : 0 ≤ f11 ∧ f11 ≤ 99999) (ht : (t : Int) < m 1) : All (renF m tape t len f11 f12).2 pool B T ∧ (renF m tape t len f11 f12).2 8 = m 8 := by
  unfold renF
  by_cases w : (renR tape len f11 f12).1 = true
  · rw [if_pos w]
    by_cases ch : 0 ≤ hbL m tape 0 ((len : Int)).toNat (m 1).toNat 0
    · rw [if_pos ch]; exact ⟨h, rfl⟩
    · rw [if_neg ch, Int.toNat_natCast]
      have l7 := renR_7 w
      have n1 : nameB tape len (ps0 f11 f12) ∧ (nameF tape len (ps0 f11 f12)).1 = len := by
        by_cases c : nameB tape len (ps0 f11 f12)
        · refine ⟨c, ?_⟩
          have e : renR tape len f11 f12 = wholeR len (nameF tape len (ps0 f11 f12)) := by unfold renR wR; rw [if_pos (decide_eq_true c)]
          rw [e] at w
          unfold wholeR at w
          split at w
          · rename_i g; exact g.1
          · cases w
        · have e : renR tape len f11 f12 = (decide (nameB tape len (ps0 f11 f12)), nameF tape len (ps0 f11 f12)) := by
            unfold renR wR
            rw [if_neg (by show ¬ (decide _ = true); rw [decide_eq_false c]; decide)]
          rw [e, decide_eq_false c] at w
          cases w
      obtain ⟨⟨s1, s2, s3, s4⟩, s5⟩ := nameB_lt (f11 := f11) (f12 := f12) n1.1
      have eE : takeE tape len f11 f12 = len := by unfold takeE; rw [n1.2]; omega
      rw [eE] at s1 s3
      have k0 := h.1.1.1.2.1
      have k1 := h.1.1.1.2.2.1
      have k3 := h.1.1.1.2.2.2.2.1
      obtain ⟨⟨⟨hM, q0, q1, q2, q3, q4, q5, q7⟩, g2, g3, g4, g5, g6⟩, sc, nc, ns⟩ := id h.1
      have e : ∀ q, ¬ q = 261 + 14 * t → ¬ (265 + 14 * t ≤ q ∧ q < 265 + 14 * t + len) → namesM m tape t 0 len q = m q := fun q x y => by rw [namesM_at, if_neg (by omega), updI_n x]
      have eL : namesM m tape t 0 len (261 + 14 * t) = len := by rw [namesM_at, if_neg (by omega), updI_s]; omega
      have eN : ∀ k, k < len → namesM m tape t 0 len (265 + 14 * t + k) = tape k := fun k hk => by rw [namesM_at, if_pos (by omega)]; congr 1; omega
      have hlet : ∀ j, j < len → isLt (tape j) := fun j y => by
        have := s3 j (by omega) y
        unfold clip at this
        rw [if_pos (by omega)] at this
        exact this
      have hin : ∀ q, InR (namesM m tape t 0 len q) := by
        intro q
        rw [namesM_at]
        split
        · have := hb (0 + (q - (265 + 14 * t))); exact ⟨by omega, by omega⟩
        · exact updM_in hM ⟨by omega, by omega⟩ q
      have cc : cnt (clsB (namesM m tape t 0 len)) (m 1).toNat = cnt (clsB m) (m 1).toNat := cnt_congr _ (fun q hq => by unfold clsB; rw [e _ (by omega) (by omega)])
      have hInv : Inv (namesM m tape t 0 len) pool B := by
        refine ⟨⟨hin, ?_⟩, ?_⟩
        · rw [e 0 (by omega) (by omega), e 1 (by omega) (by omega), e 2 (by omega) (by omega), e 3 (by omega) (by omega), e 4 (by omega) (by omega), e 5 (by omega) (by omega)]
          refine ⟨q0, q1, q2, q3, q4, q5, fun u hu => ?_⟩
          by_cases c : u = t
          · subst c; rw [eL]; omega
          · rw [e _ (by omega) (by omega)]; exact q7 u hu
        · rw [e 0 (by omega) (by omega), e 1 (by omega) (by omega), e 2 (by omega) (by omega), e 4 (by omega) (by omega), e 5 (by omega) (by omega), e 6 (by omega) (by omega), e 8 (by omega) (by omega), cc]
          refine ⟨g2, fun u hu => ?_, g4, g5, fun u j hu hj => ?_⟩
          · have z := g3 u hu
            unfold thOk at z ⊢
            rw [e (258 + 14 * u) (by omega) (by omega), e (259 + 14 * u) (by omega) (by omega), e (260 + 14 * u) (by omega) (by omega), e (262 + 14 * u) (by omega) (by omega), e (263 + 14 * u) (by omega) (by omega), e 0 (by omega) (by omega), e 6 (by omega) (by omega), e 8 (by omega) (by omega)]
            by_cases c : u = t
            · subst c; rw [eL]; exact ⟨z.1, z.2.1, ⟨by omega, z.2.2.1.2⟩, z.2.2.2⟩
            · rw [e (261 + 14 * u) (by omega) (by omega)]; exact z
          · by_cases c : u = t ∧ j < len
            · obtain ⟨rfl, c⟩ := c
              rw [eN j c]
              have := hlet j c
              unfold isLt at this; omega
            · rw [e _ (by omega) (by omega)]; exact g6 u j hu hj
      have es : Es m (namesM m tape t 0 len) := by
        refine ⟨fun q hq => e q ?_ ?_, fun c hc => Or.inl (e _ (by omega) (by omega)), ?_, fun z u hu => ?_, fun u hu => Or.inl (e _ (by omega) (by omega))⟩
        · have := fat_far hq; unfold far at this; omega
        · have := fat_far hq; unfold far at this; omega
        · rw [e 1 (by omega) (by omega), e 2 (by omega) (by omega), e 6 (by omega) (by omega)]; omega
        · rw [e 1 (by omega) (by omega)] at hu
          rw [e _ (by omega) (by omega)]; exact z u hu
      have hsc : ScI (namesM m tape t 0 len) := by
        obtain ⟨x1, x2, x3⟩ := sc
        refine ⟨by rw [e _ (by omega) (by omega)]; exact x1, by rw [e _ (by omega) (by omega)]; exact x2, fun c hc => ?_⟩
        rw [e 0 (by omega) (by omega)] at hc
        obtain ⟨a, b⟩ := x3 c hc
        rw [e (18 + 4 * c) (by omega) (by omega), e (19 + 4 * c) (by omega) (by omega), e (20 + 4 * c) (by omega) (by omega), e 6 (by omega) (by omega)]
        refine ⟨a, fun g => ?_⟩
        obtain ⟨b1, b2, b3⟩ := b g
        rw [e (18 + 4 * (m (19 + 4 * c)).toNat) (by omega) (by omega)]
        exact ⟨b1, b2, b3⟩
      exact ⟨h.es hInv hsc es, e 8 (by omega) (by omega)⟩
  · rw [if_neg w]; exact ⟨h, rfl⟩

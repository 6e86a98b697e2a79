section EXG
variable {pool : Nat → Int} {sink : Int} {cl : (Nat → Int) → Nat → (Nat → Int) → Prop} {sh : (Nat → Int) → Int → (Nat → Int) → Prop} {n : Nat}
theorem stepT_exg {m : Nat → Int} {B s2 : Int} {k p e : Nat} (hPo : poolOk pool) (hC : CXG cl pool n) (h : Inv m pool B) (hB : B + 130 * n + 2 ≤ 2000000000) (hn : 91 ≤ n + cnt (cngB m) (m 1).toNat) (hs : InR s2) (hT : stepT pool (stsC pool k) p e) (he : ¬ dgP (pool e)) (he2 : e ≤ p + 121) (hp : (e : Int) ≤ m 8) :
    ∃ f m', stpR pool (cl) m p s2 f m' ∧ Inv m' pool (B + 1) ∧ Ev m m' ∧ InR f := by
  have hlt := stepT_lt hT
  have hok := h.1
  have h8 := h.2.1.2.2
  obtain ⟨hM, k0, k1, k2, k3, k4, k5, k7⟩ := id hok
  have h1 : Inv m pool (B + 1) := h.up (by omega)
  rcases hT with ⟨hk, hc, hq, hv⟩ | ⟨hk, hv⟩ | ⟨hk, q, hq, hx⟩ | ⟨hk, hq⟩ | ⟨hk, q, hq, hq2, hv⟩ | ⟨hk, hc, rfl⟩ | ⟨hk, rfl⟩
  · obtain ⟨d1, d2⟩ := sgn_dig hv he
    exact ⟨0, _, ⟨hok, hs, by omega, Or.inl ⟨hk, hc, rfl, 20, d1, rfl⟩⟩, h1.out (wrap_r _) (by omega) (by omega), Ev.out (by unfold far; omega) (by omega) (by omega) k1.2 (Or.inl (by omega)), by decide⟩
  · obtain ⟨d1, d2⟩ := num_dig hv (by decide) he
    exact ⟨_, m, ⟨hok, hs, by omega, Or.inr (Or.inl ⟨hk, rfl, 20, d1, rfl⟩)⟩, h1, Ev.rf, ⟨by omega, by omega⟩⟩
  · have hne := nam_end hq
    obtain ⟨q1, q2, q3, q4⟩ := id hq
    have hft : ∃ P E : Nat, ftF pool 130 q = ((P : Int), (E : Int)) ∧ textT (m 8) pool P E ∧ (pool q = 123 → brStop pool 130 (q + 1) 1) := by
      rcases hx with ⟨rfl, hx⟩ | ⟨hx, r, hr, hr2, hr3, rfl⟩
      · exact ⟨e, e, by unfold ftF; rw [if_neg hx], ⟨Nat.le_refl _, by omega, Or.inl ⟨rfl, by omega⟩⟩, fun z => absurd z hx⟩
      · obtain ⟨b1, b2⟩ := (stsC_skip k _ _ hr).br (n := 130) hr3 (by omega)
        exact ⟨q + 1, r, by unfold ftF; rw [if_pos hx, b1]; congr 1; omega, ⟨hr2, by omega, Or.inr ⟨by omega, k, hr⟩⟩, fun _ => b2⟩
    obtain ⟨P, E, hf, ht, hb⟩ := hft
    refine ⟨takenV m pool (m 1).toNat (p + 1) q s2, takenM m pool (m 1).toNat 130 (p + 1) q s2, ⟨hok, hs, by omega, Or.inr (Or.inr (Or.inl ⟨hk, 130, by omega, ?_, ?_, ?_⟩))⟩, ?_⟩
    · rw [hne]; exact hb
    · rw [hne]
    · rw [hne]
    · have hr : InR (takenV m pool (m 1).toNat (p + 1) q s2) := by unfold takenV; split <;> (try split) <;> (try split) <;> decide
      by_cases z : takenV m pool (m 1).toNat (p + 1) q s2 = 0
      · have z2 := z
        unfold takenV at z2
        split at z2
        · rename_i ho
          split at z2
          · exact absurd z2 (by decide)
          · split at z2
            · exact absurd z2 (by decide)
            · rename_i h9
              have y := inv_take (rc := pool) h (N := (m 1).toNat) (fr := p + 1) (to := q) (o := s2) (P := P) (E := E) (by omega) (by omega) ⟨ho.1, by omega⟩ (by omega) (by omega) hPo.r q3 ht (by omega)
              unfold takenM
              rw [if_pos z, hf]
              exact ⟨y.1, y.2, hr⟩
        · exact absurd z2 (by decide)
      · unfold takenM
        rw [if_neg z]
        exact ⟨h1, Ev.rf, hr⟩
  · have hne := nam_end hq
    by_cases z : hbL m pool (p + 1) e (m 1).toNat 0 < 0
    · exact ⟨104, m, ⟨hok, hs, by omega, Or.inr (Or.inr (Or.inr (Or.inl ⟨hk, Or.inl ⟨by rw [hne]; exact z, rfl, rfl⟩⟩)))⟩, h1, Ev.rf, by decide⟩
    · obtain ⟨y1, y2⟩ := hbL_held (m := m) (rc := pool) (fr := p + 1) (to := e) (m 1).toNat 0 (by omega)
      obtain ⟨m', c1, c2, c3, -, -⟩ := hC m _ B h (by omega) hn (by omega) y1
      exact ⟨0, m', ⟨hok, hs, by omega, Or.inr (Or.inr (Or.inr (Or.inl ⟨hk, Or.inr ⟨by rw [hne]; omega, rfl, by rw [hne]; exact c1⟩⟩)))⟩, c2.up (by omega), c3, by decide⟩
  · have hne := nam_end hq
    have q1 := hq.1
    obtain ⟨d1, d2⟩ := num_dig hv (by decide) he
    have hnr : InR (numAt pool 20 (q + 1)) := ⟨by omega, by omega⟩
    by_cases z : hbL m pool (p + 1) q (m 1).toNat 0 < 0
    · exact ⟨104, m, ⟨hok, hs, by omega, Or.inr (Or.inr (Or.inr (Or.inr (Or.inl ⟨hk, 20, by rw [hne]; exact d1, by rw [hne]; exact hnr, Or.inl ⟨by rw [hne]; exact z, rfl, rfl⟩⟩))))⟩, h1, Ev.rf, by decide⟩
    · by_cases ho : openP m (numAt pool 20 (q + 1))
      · obtain ⟨y1, y2⟩ := hbL_held (m := m) (rc := pool) (fr := p + 1) (to := q) (m 1).toNat 0 (by omega)
        have y := inv_move h (t := (hbL m pool (p + 1) q (m 1).toNat 0).toNat) (s := numAt pool 20 (q + 1)) (by omega) ⟨ho.1, by omega⟩ (by omega)
        exact ⟨0, _, ⟨hok, hs, by omega, Or.inr (Or.inr (Or.inr (Or.inr (Or.inl ⟨hk, 20, by rw [hne]; exact d1, by rw [hne]; exact hnr, Or.inr (Or.inr ⟨by rw [hne]; omega, by rw [hne]; exact ho, rfl, by rw [hne]⟩)⟩))))⟩, y.1, y.2, by decide⟩
      · exact ⟨105, m, ⟨hok, hs, by omega, Or.inr (Or.inr (Or.inr (Or.inr (Or.inl ⟨hk, 20, by rw [hne]; exact d1, by rw [hne]; exact hnr, Or.inr (Or.inl ⟨by rw [hne]; omega, by rw [hne]; exact ho, rfl, rfl⟩)⟩))))⟩, h1, Ev.rf, by decide⟩
  · refine ⟨_, _, ⟨hok, hs, by omega, Or.inr (Or.inr (Or.inr (Or.inr (Or.inr (Or.inl ⟨hk, hc, rfl, rfl⟩)))))⟩, ?_⟩
    have hc' : 48 ≤ pool (p + 1) ∧ pool (p + 1) ≤ 57 := hc
    by_cases z : pool (p + 1) - 48 ≤ m 3 - 1 ∧ m (1610 + 72 * (pool (p + 1) - 48)).toNat = 0
    · rw [if_pos z, if_pos z]
      exact ⟨h1.out (by decide) (by omega) (by omega), Ev.out (fun w => by
        unfold far at w
        rcases w with w | w | w | w | w | ⟨-, -, w⟩
        · omega
        · omega
        · omega
        · omega
        · omega
        · exact w (pool (p + 1) - 48).toNat (by omega)) (by omega) (by omega) k1.2 (Or.inr rfl), by decide⟩
    · rw [if_neg z, if_neg z]
      exact ⟨h1, Ev.rf, by decide⟩
  · exact ⟨0, m, ⟨hok, hs, by omega, Or.inr (Or.inr (Or.inr (Or.inr (Or.inr (Or.inr ⟨by rw [hk]; decide, rfl, rfl⟩)))))⟩, h1, Ev.rf, by decide⟩
end EXG

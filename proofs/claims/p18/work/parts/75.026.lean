section mg_79
theorem sh_loop {pool : Nat → Int} (hPo : poolOk pool) {sink : Int} (hk : InR sink) {n s : Nat} (hS : SX pool sink n) (hn : 60 ≤ n + s) : ∀ (K : Nat) (m : Nat → Int) (B : Int), Inv m pool B → ScI m → NC m → B ≤ 1900000000 → (s : Int) < m 0 → m (18 + 4 * s) = 1 → (∀ c : Nat, s < c → (c : Int) < m 0 → ¬ m (18 + 4 * c) = 1) → (90 - m 2) + cnt (openB m) (m 0).toNat ≤ K →
    ∃ k m', shLoopR (closesR pool sink 91) (shutsR pool sink n) s k m m' ∧ Inv m' pool B ∧ ScI m' ∧ Es m m' ∧ lastI m' s < 0
  | K, m, B, h, hsc, hnc, hB, hs0, hs1, hc1, hK => by
    have hok := h.1
    obtain ⟨hM, k0, k1, k2, k3, k4, k5, k7⟩ := id hok
    have h01 := h.2.1.1
    have hr := lastM_p m s (m 1).toNat (m 0).toNat (by omega)
    have hdef : lastI m s = lastM m s (m 1).toNat (m 0).toNat := rfl
    rw [← hdef] at hr
    have rc := cnt_r (openB m) (m 0).toNat
    rcases hr with hr | ⟨u, hr, hu1, hu2, hu3⟩ | ⟨u, hr, hu0, hu1, hu2, hu3⟩
    · exact ⟨0, m, ⟨hok, h01, by omega, rfl⟩, h, hsc, Es.rf, by omega⟩
    · obtain ⟨m1, a, b, c, d, -⟩ := closes_ex hPo hk 91 m u B h (by omega) (by rw [hnc.cnt k1.1]; omega) (by omega) hu2
      have b2 := b.1.2.2.2.1
      have e0 : m1 0 = m 0 := c.1 0 (by unfold far; omega)
      have ec : cnt (openB m1) (m 0).toNat = cnt (openB m) (m 0).toNat := cnt_congr _ (fun q hq => by unfold openB; rw [c.1 _ (by unfold far; omega)])
      cases K with
      | zero => omega
      | succ K =>
        obtain ⟨k, m', a2, b2, c2, d2, e2⟩ := sh_loop hPo hk hS hn K m1 B b (c.sc hsc k0.2) (c.es.2.2.2.1 hnc) hB (by omega) (by rw [c.1 _ (by unfold far; omega)]; exact hs1) (fun q x y => by rw [c.1 _ (by unfold far; omega)]; exact hc1 q x (by omega)) (by rw [e0, ec]; omega)
        exact ⟨k + 1, m', ⟨hok, h01, Or.inr (Or.inl ⟨by omega, m1, by rw [hr, Int.toNat_natCast]; exact a, a2⟩)⟩, b2, c2, c.es.tr d2, e2⟩
    · obtain ⟨p1, p2⟩ := hsc.2.2 u (by omega)
      obtain ⟨p3, -, -⟩ := p2 hu0
      obtain ⟨m1, a, b, c, d, e⟩ := hS m u B h hsc hnc hB (by omega) (by omega) (fun q x y => hc1 q (by omega) y)
      have e0 : m1 0 = m 0 := d.1 0 (by unfold fat; omega)
      have eu := e hu2
      rw [if_neg (by omega)] at eu
      have ec : cnt (openB m1) (m 0).toNat < cnt (openB m) (m 0).toNat := by
        have le : ∀ N : Nat, N ≤ 60 → cnt (openB m1) N ≤ cnt (openB m) N ∧ (u < N → cnt (openB m1) N < cnt (openB m) N) := by
          intro N
          induction N with
          | zero => intro _; exact ⟨Int.le_refl _, fun z => by omega⟩
          | succ N ih =>
            intro hN
            obtain ⟨i1, i2⟩ := ih (by omega)
            rw [cnt_S, cnt_S]
            by_cases g : N = u
            · subst g
              rw [show openB m1 N = false from decide_eq_false (by rw [eu]; decide), show openB m N = true from decide_eq_true hu2]
              simp only [if_true, Bool.false_eq_true, if_false]
              omega
            · have q : (if openB m1 N = true then (1 : Int) else 0) ≤ (if openB m N = true then 1 else 0) := by
                rcases d.2.1 N (by omega) with w | w
                · rw [show openB m1 N = openB m N by unfold openB; rw [w]]; exact Int.le_refl _
                · rw [show openB m1 N = false from decide_eq_false (by rw [w.2.1]; decide)]
                  simp only [Bool.false_eq_true, if_false]
                  split <;> decide
              refine ⟨by omega, fun z => ?_⟩
              have := i2 (by omega)
              omega
        exact (le (m 0).toNat (by omega)).2 (by omega)
      have d3 := d.2.2.1
      have st1 : m1 (18 + 4 * s) = 1 := by
        rcases d.2.1 s (by omega) with w | w
        · rw [w]; exact hs1
        · rw [hs1] at w; exact absurd w.1 (by decide)
      have rc1 := cnt_r (openB m1) (m 0).toNat
      cases K with
      | zero => omega
      | succ K =>
        obtain ⟨k, m', a2, b2, c2, d2, e2⟩ := sh_loop hPo hk hS hn K m1 B b c (d.2.2.2.1 hnc) hB (by omega) st1 (fun q x y => by
          rcases d.2.1 q (by omega) with w | w
          · rw [w]; exact hc1 q x (by omega)
          · rw [w.2.1]; decide) (by rw [e0]; omega)
        exact ⟨k + 1, m', ⟨hok, h01, Or.inr (Or.inr ⟨by omega, m1, by rw [hr, show 100 + (u : Int) - 100 = u by omega]; exact a, a2⟩)⟩, b2, c2, d.tr d2, e2⟩
end mg_79

/-! ===== find, from, rename on both ===== -/
section G7
variable {sg : Bool} {G : mG} {l : Launch} {x y n : Nat} {h hh h1 h' : mH} {f4 : Int} {m kpm pool : Nat → Int} {zt : Int} {ft : Nat → Int} {f18 : Int} {pap rwd rw : Nat → Int}
theorem isM.kq {fs : List Value} {was pln : Nat → Int} (k : isM h y fs m kpm was pool ft pln pap rwd rw) (e : h'.1 = h.1) (s : ∀ b, mBlk y b → hGet h' b = hGet h b) : isM h' y fs m kpm was pool ft pln pap rwd rw := by
  obtain ⟨k1, k2, k3, k4, k5, k6, k7, k8, k9, ka, kb⟩ := k
  refine ⟨by rw [e]; exact k1, ?_, ?_, ?_, ?_, ?_, ?_, ?_, ?_, ?_, ?_⟩
  · exact (s _ (by unfold mBlk; omega)).trans k2
  · exact (s _ (by unfold mBlk mAd; omega)).trans k3
  · exact (s _ (by unfold mBlk mAd; omega)).trans k4
  · exact (s _ (by unfold mBlk mAd; omega)).trans k5
  · exact (s _ (by unfold mBlk mAd; omega)).trans k6
  · exact (s _ (by unfold mBlk mAd; omega)).trans k7
  · exact (s _ (by unfold mBlk mAd; omega)).trans k8
  · exact (s _ (by unfold mBlk mAd; omega)).trans k9
  · exact (s _ (by unfold mBlk mAd; omega)).trans ka
  · exact (s _ (by unfold mBlk mAd; omega)).trans kb
theorem TWO.of2 {Mc Mm : mM} {args : List Value} {z : Value} {dc dm : Nat} (hdc : dc ≤ 1000) (hdm : dm ≤ 1000) {lg : Bool} (hk : isZ lg z) {f4' : Int} {m' kpm' pool' : Nat → Int} {zt' : Int} {ft' : Nat → Int} {f18' : Int} {pap' rwd' rw' : Nat → Int} (hz : SZ y n h) (hM : MH y f4 m kpm pool zt ft f18 pap rwd rw h)
    (hc : RUNM G l dc Mc (.ref x :: args) h (fun v h1 => v = some z ∧ CP sg x y f4' m' kpm' pool' zt' ft' f18' pap' rwd' rw' h h1))
    (hm : ∀ h1 : mH, h1.1 = h.1 → (∀ b, mBlk y b → hGet h1 b = hGet h b) → RUNM G l dm Mm (.ref y :: args) h1 (fun v h2 => v = some z ∧ MH y f4' m' kpm' pool' zt' ft' f18' pap' rwd' rw' h2 ∧ Same (mBlk y) h1 h2))
    (hs : SO (n + 1) f4' m' kpm' pool' zt' ft' f18' rwd' rw') : TWO sg G l x y n lg Mc Mm args h := by
  refine ⟨z, hk, (hc.deeper hdc).mono (fun v h1 q => ⟨q.1, ?_⟩)⟩
  obtain ⟨q1, q2, ⟨q3, q4⟩, q5, q6⟩ := q
  refine ⟨MDL.of q3 q4 hM, ((hm h1 q3 (fun b hb => q4 b (Or.inl hb))).deeper hdm).mono (fun v2 h2 r => ⟨r.1, ?_⟩)⟩
  obtain ⟨r1, r2, r3⟩ := r
  have e1 := r3.2.1
  have e2 := r3.2.2.1
  obtain ⟨z1, z2⟩ := hz
  have xy := q2.xy
  exact ⟨⟨f4', m', kpm', pool', zt', ft', f18', pap', rwd', rw', q2.kp (Old.of r3), r2, hs, by omega, by omega⟩, r3.1.trans q3, fun q hq => (r3.2.2.2 q (by unfold mBlk; omega)).trans (q4 q (Or.inr hq))⟩
theorem FrR.Old (F : FrR (kA x 1) h hh) : Old (kBlk x) h hh := ⟨F.1, F.2.1, fun b hb hn => F.2.2.2 b hb (fun q => hn (by unfold dBlk kA at q; unfold kBlk; omega))⟩
theorem CP.of3 {S : Nat → Option mO} {kp tk : Option Nat} {zr : Nat → Int} {fr : Nat → Nat → Int} {p e o zs : Int} {fs : Nat → Int} {b : Int} {fa c : Nat → Int} {C : Nat → Nat → Int} {nm : Nat → Int64} {g : Nat → Option Nat} (hxy : x + 196 ≤ y ∧ y + 10 ≤ h.2.1) (F : FrR (kA x 1) h hh) (sz : hh.2.1 ≤ h.2.1 + 200) (hS : Same (kBlk x) hh h1) (hK : isK h1 x kp tk zr fr p e o zt ft zs fs b 0 fa c C nm g) (hT : CTR m pool S c C nm g) (hst : stR y hh S) (hke : keR y hh S kp f4 kpm pool) (htk : tkR y hh S kp tk) (hro : roR zr fr rwd rw) (hpa : paR sg zs fs f18 pap) : CP sg x y f4 m kpm pool zt ft f18 pap rwd rw h h1 := by
  have f2 := F.2.1
  have f3 := F.2.2.1
  obtain ⟨k1, ⟨k2, k3⟩, k4, k5⟩ := CP.of (h := hh) ⟨hxy.1, by omega⟩ hS hK hT hst hke htk hro hpa
  have e1 := hS.2.1
  have e2 := hS.2.2.1
  refine ⟨k1, ⟨k2.trans F.1, fun b hb => (k3 b hb).trans (F.2.2.2 b ?_ ?_)⟩, by omega, by omega⟩
  · unfold mBlk at hb; omega
  · unfold mBlk at hb; unfold dBlk kA; omega
theorem nmY_c {sr sr' : Nat → Int} {p e : Nat} (h : ∀ j, p ≤ j → j < e → sr j = sr' j) : nmY sr p e = nmY sr' p e := by
  have : nmG sr p e = nmG sr' p e := by
    funext j
    unfold nmG
    by_cases c : p + j < e
    · rw [if_pos c, if_pos c, h (p + j) (by omega) c]
    · rw [if_neg c, if_neg c]
  unfold nmY nmN
  rw [this]
theorem hbL_n {rc : Nat → Int} {fr to : Nat} : ∀ n t : Nat, hbL m rc fr to n t = -5 ∨ 0 ≤ hbL m rc fr to n t
  | 0, t => Or.inl rfl
  | n + 1, t => by
    unfold hbL
    split
    · exact Or.inr (by omega)
    · exact hbL_n n (t + 1)
/-- a byte string that is a held thing's name is a name -/
theorem hb_name {rc : Nat → Int} {to : Nat} (hn : ∀ t : Nat, (t : Int) < m 1 → nmOk m t) : ∀ n t : Nat, ((t + n : Nat) : Int) ≤ m 1 → 0 ≤ hbL m rc 0 to n t → (1 ≤ to ∧ to ≤ 7) ∧ ∀ j, j < to → isLt (rc j) := by
  intro n
  induction n with
  | zero => intro t ht h; exact absurd h (by decide : ¬ (0 : Int) ≤ -5)
  | succ n ih =>
    intro t ht h
    unfold hbL at h
    split at h
    · rename_i c
      have ok := hn t (by omega)
      have c2 := c.2
      unfold namedB at c2
      rw [Bool.and_eq_true, decide_eq_true_eq, nmL_iff] at c2
      obtain ⟨c1, c2⟩ := c2
      have o1 := ok.1
      refine ⟨by omega, fun j hj => ?_⟩
      have e1 := ok.2 j (by omega)
      have e2 := c2 j (by omega) (by omega)
      rw [Nat.sub_zero] at e2
      rw [← e2]
      exact e1
    · exact ih (t + 1) (by omega) h
theorem ren_yes {f : Nat → Int} {z : Int} (h1 : 1 ≤ z ∧ z ≤ 7) (hl : ∀ j : Nat, (j : Int) < z → isLt (f j)) (f11 f12 : Int) : (renR f z f11 f12).1 = true := by
  have hl0 := hl 0 (by omega)
  have e0 : hereF f z 0 = f 0 := by unfold hereF; rw [if_pos (by omega)]; rfl
  rcases ren_ok (z := z) (f := f) (f11 := f11) (f12 := f12) ⟨by omega, by omega⟩ with ⟨b, e, n1, n2, n3, n4, n5, n6, n7, n8⟩ | ⟨b, -⟩
  · obtain ⟨p1, p2, p3, p4⟩ := n1
    have ez : (e : Int) = z := by
      by_cases c : (e : Int) < z
      · rcases p4 with p4 | p4
        · omega
        · exact absurd (by unfold clip; rw [if_pos c]; exact hl e c) p4
      · omega
    unfold renR
    rw [wR_1 (len := z) (r := (decide (nameB f z (ps0 f11 f12)), nameF f z (ps0 f11 f12))) (decide_eq_true b) (n5.trans ez) n7]
  · exact absurd (show 97 ≤ hereF f z 0 ∧ hereF f z 0 ≤ 122 by rw [e0]; exact hl0) b
end G7
set_option maxHeartbeats 4000000 in
set_option maxRecDepth 100000 in
theorem two_find {sg : Bool} {G : mG} {l : Launch} (hG : G.2.map Prod.snd = mTy) {x y n0 : Nat} {h : mH} (hn0 : n0 ≤ 600) (hI : RI sg x y n0 h) : TWO sg G l x y n0 false mX10_find mX11_find [] h := by
  obtain ⟨f4, m, kpm, pool, zt, ft, f18, pap, rwd, rw, hCH, hMH, hSO, hSZ⟩ := hI
  obtain ⟨S, kp, tk, zr, fr, p, e, o, zs, fs, b, fa, c, C, nm, g, hK, ⟨hT, hst, hke, htk⟩, hro, hpa, hxy⟩ := id hCH
  obtain ⟨⟨hA, hPo⟩, hkp, hta, h18, hrw⟩ := id hSO
  obtain ⟨N, K, T, Z, F, hX⟩ := fx_of hT hA
  obtain ⟨⟨mN, cN, N90⟩, ⟨mK, cK, K1, K60⟩, ⟨mT, cT, T10⟩, ⟨cZ, Z150⟩, ⟨⟨c11, c12, c13⟩, F90, c4⟩, ⟨hO, hpR, hpO, hoO⟩, ⟨c8, c9, L0, L90⟩, ⟨hc, hC⟩, hst2, htp⟩ := id hX
  obtain ⟨⟨hInv, hsc, hnc, hns⟩, hTk, hm7, hm8⟩ := id hA
  have hok := hInv.1
  have hM := hok.1
  have hCR := hT.1
  have hcT := hCR.2.1
  have hcS := hCR.2.2.1
  have hcK := hCR.2.2.2.1
  have hcL := hCR.2.2.2.2.1
  have hst3 : ∀ t : Nat, (t : Int) < m 1 → 0 ≤ m (258 + 14 * t) ∧ m (258 + 14 * t) ≤ 2 := fun t ht => (hst2 t ht).1
  obtain ⟨v1, hh, ⟨yy, rfl, F1, sz, P1, E1, rP, hD1, hQ⟩, R1⟩ := (rd_whole (G := G) (l := l) 0 hK.d hta.1 hta.2.1 (by unfold kA; omega) 0 0).ex
  have hK1 := hK.ofF (by omega) F1 hD1
  have rE : InR E1 := by
    rcases hQ with ⟨-, q, -⟩ | ⟨-, -, q1, q2⟩
    · rw [q]; decide
    · exact ⟨by omega, by omega⟩
  have hst1 := hst.kp F1.Old (fun b hb => Or.inl (by unfold kBlk at hb; omega))
  have hke1 := hke.kp F1.Old (fun b w e hb => by have := hke.lo e; unfold wBlk at hb; unfold kBlk; omega)
  have htk1 := htk.kp F1.Old (fun b r e hb => by have := htk.lo e; unfold rBlk at hb; unfold kBlk; omega)
  have hnm : namS (clip ft zt) 0 zt.toNat → yy = nmY (clip ft zt) 0 zt.toNat → (∀ j, 0 ≤ j → j < zt.toNat → isLt (ft j)) ∧ (1 ≤ zt.toNat ∧ zt.toNat ≤ 7) ∧ yy = nmY ft 0 zt.toNat ∧ hnL c nm yy N 0 = hbL m ft 0 zt.toNat N 0 := by
    intro q3 q4
    obtain ⟨p1, p2, p3, p4⟩ := q3
    have hl : ∀ j, 0 ≤ j → j < zt.toNat → isLt (ft j) := fun j h0 hj => by
      have z := p3 j h0 hj
      unfold clip at z
      rw [if_pos (by omega)] at z
      exact z
    have ey : yy = nmY ft 0 zt.toNat := by
      rw [q4]
      exact nmY_c (fun j h0 hj => by unfold clip; rw [if_pos (by omega)])
    refine ⟨hl, ⟨by omega, by omega⟩, ey, ?_⟩
    rw [ey]
    exact (hb_hn hcT hst3 hl ⟨by omega, by omega⟩ N 0 (by omega)).symm
  have ev : (if 0 ≤ E1 then -5 else hnL c nm yy N 0) = hbL m ft 0 zt.toNat N 0 := by
    rcases hQ with ⟨q1, q2, q3, q4⟩ | ⟨q1, q2, q3, q4⟩
    · rw [if_neg (by omega)]
      exact (hnm q3 q4).2.2.2
    · rw [if_pos q3]
      rcases hbL_n (m := m) (rc := ft) (fr := 0) (to := zt.toNat) N 0 with z | z
      · exact z.symm
      · obtain ⟨n1, n2⟩ := hb_name (fun t ht => (hcT t ht).2.2.2.2) N 0 (by omega) z
        exact absurd (ren_yes (f := ft) (z := zt) ⟨by omega, by omega⟩ (fun j hj => n2 j (by omega)) 0 0) (by rw [q1]; decide)
  refine TWO.of (dm := 1000) (z := .int (J (hbL m ft 0 zt.toNat N 0))) (f4' := f4) (m' := m) (kpm' := kpm) (pool' := pool) (zt' := 0) (ft' := ft) (f18' := f18) (pap' := pap) (rwd' := rwd) (rw' := rw) (Nat.le_of_ble_eq_true rfl) (Nat.le_of_ble_eq_true rfl) ⟨_, rfl⟩ hSZ hMH ((kg_find 17 hK hc hC rE R1 hK1 cN N90).mono (fun v h' q0 => ?_)) (fun h1 hM1 => ?_) ?_
  · obtain ⟨q1, q2, q3⟩ := q0
    rw [ev] at q1
    exact ⟨q1, CP.of3 hxy F1 (by omega) q3 q2 hT hst1 hke1 htk1 hro hpa⟩
  · obtain ⟨f14, f16, was, pln, r14, f8, f9, f10, f11, f12, f13, s, r11, hB⟩ := id hM1
    refine ((m_find 0 hB hok hta.1 (fun q => ⟨by have := hta.2.1 q; omega, by have := hta.2.1 q; omega⟩)).deeper (Nat.le_of_ble_eq_true rfl)).mono (fun v h2 q0 => ?_)
    obtain ⟨q1, q2, q3⟩ := q0
    rw [show (m 1).toNat = N by omega] at q1
    exact ⟨q1, ⟨f14, f16, was, pln, r14, q2.isMs r11⟩, q3⟩
  · exact hSO.tape ⟨⟨by omega, by omega⟩, hta.2.1, fun j hj => by omega⟩
set_option maxHeartbeats 4000000 in
set_option maxRecDepth 100000 in
theorem two_from {sg : Bool} {G : mG} {l : Launch} (hG : G.2.map Prod.snd = mTy) {x y n0 : Nat} {h : mH} (hn0 : n0 ≤ 600) (hI : RI sg x y n0 h) : TWO sg G l x y n0 false mX10_from mX11_from [] h := by
  obtain ⟨f4, m, kpm, pool, zt, ft, f18, pap, rwd, rw, hCH, hMH, hSO, hSZ⟩ := hI
  obtain ⟨S, kp, tk, zr, fr, p, e, o, zs, fs, b, fa, c, C, nm, g, hK, ⟨hT, hst, hke, htk⟩, hro, hpa, hxy⟩ := id hCH
  obtain ⟨⟨hA, hPo⟩, hkp, hta, h18, hrw⟩ := id hSO
  obtain ⟨N, K, T, Z, F, hX⟩ := fx_of hT hA
  obtain ⟨⟨mN, cN, N90⟩, ⟨mK, cK, K1, K60⟩, ⟨mT, cT, T10⟩, ⟨cZ, Z150⟩, ⟨⟨c11, c12, c13⟩, F90, c4⟩, ⟨hO, hpR, hpO, hoO⟩, ⟨c8, c9, L0, L90⟩, ⟨hc, hC⟩, hst2, htp⟩ := id hX
  obtain ⟨⟨hInv, hsc, hnc, hns⟩, hTk, hm7, hm8⟩ := id hA
  have hok := hInv.1
  have hM := hok.1
  have hCR := hT.1
  have hcT := hCR.2.1
  have hcS := hCR.2.2.1
  have hcK := hCR.2.2.2.1
  have hcL := hCR.2.2.2.2.1
  have hst3 : ∀ t : Nat, (t : Int) < m 1 → 0 ≤ m (258 + 14 * t) ∧ m (258 + 14 * t) ≤ 2 := fun t ht => (hst2 t ht).1
  have hnm : ∀ t : Nat, t < N → (0 ≤ m (261 + 14 * t) ∧ m (261 + 14 * t) ≤ 7) ∧ ∀ k : Nat, k < 7 → -200 ≤ m (265 + 14 * t + k) ∧ m (265 + 14 * t + k) ≤ 200 := by
    intro t ht
    have ok := (hcT t (by omega)).2.2.2.2.1
    refine ⟨by omega, fun k hk => ?_⟩
    have := hInv.2.2.2.2.2 t k (by omega) hk
    omega
  have hft : ∀ q, InR (ft q) := fun q => ⟨by have := hta.2.1 q; omega, by have := hta.2.1 q; omega⟩
  have ez : ((zt.toNat : Nat) : Int) = zt := by omega
  have ev : hfL c nm (fun y => lessL y zt ft 8 0) N 0 (-5) = frL m ft zt N 0 (-5) := by
    have y := hf_eq hcT hst3 mN (f := ft) (b := zt.toNat) (by omega) (fun j hj => hta.2.2 j (by omega)) N 0 (-5) (by omega) (Or.inl (by decide))
    rw [ez] at y
    exact y
  refine TWO.of (dm := 1000) (z := .int (J (frL m ft zt N 0 (-5)))) (f4' := f4) (m' := m) (kpm' := kpm) (pool' := pool) (zt' := 0) (ft' := ft) (f18' := f18) (pap' := pap) (rwd' := rwd) (rw' := rw) (Nat.le_of_ble_eq_true rfl) (Nat.le_of_ble_eq_true rfl) ⟨_, rfl⟩ hSZ hMH ((kg_from 0 hK hc hC cN N90 ⟨by omega, by omega⟩ hft).mono (fun v h' q0 => ?_)) (fun h1 hM1 => ?_) ?_
  · obtain ⟨q1, q2, q3⟩ := q0
    rw [ev] at q1
    exact ⟨q1, CP.of hxy q3 q2 hT hst hke htk hro hpa⟩
  · obtain ⟨f14, f16, was, pln, r14, f8, f9, f10, f11, f12, f13, s, r11, hB⟩ := id hM1
    refine ((m_from 0 hB hok mN hnm hta.1 (fun k hk => by have := hta.2.1 k; omega)).deeper (Nat.le_of_ble_eq_true rfl)).mono (fun v h2 q0 => ?_)
    obtain ⟨q1, q2, q3⟩ := q0
    exact ⟨q1, ⟨f14, f16, was, pln, r14, q2.isMs r11⟩, q3⟩
  · exact hSO.tape ⟨⟨by omega, by omega⟩, hta.2.1, fun j hj => by omega⟩
set_option maxHeartbeats 4000000 in
set_option maxRecDepth 100000 in
theorem two_rename {sg : Bool} {G : mG} {l : Launch} (hG : G.2.map Prod.snd = mTy) {x y n0 : Nat} {h : mH} (hn0 : n0 ≤ 600) (hI : RI sg x y n0 h) {a : Int} (ha : InR a) : TWO sg G l x y n0 false mX10_rename mX11_rename [.int (J a)] h := by
  obtain ⟨f4, m, kpm, pool, zt, ft, f18, pap, rwd, rw, hCH, hMH, hSO, hSZ⟩ := hI
  obtain ⟨S, kp, tk, zr, fr, p, e, o, zs, fs, b, fa, c, C, nm, g, hK, ⟨hT, hst, hke, htk⟩, hro, hpa, hxy⟩ := id hCH
  obtain ⟨⟨hA, hPo⟩, hkp, hta, h18, hrw⟩ := id hSO
  obtain ⟨N, K, T, Z, F, hX⟩ := fx_of hT hA
  obtain ⟨⟨mN, cN, N90⟩, ⟨mK, cK, K1, K60⟩, ⟨mT, cT, T10⟩, ⟨cZ, Z150⟩, ⟨⟨c11, c12, c13⟩, F90, c4⟩, ⟨hO, hpR, hpO, hoO⟩, ⟨c8, c9, L0, L90⟩, ⟨hc, hC⟩, hst2, htp⟩ := id hX
  obtain ⟨⟨hInv, hsc, hnc, hns⟩, hTk, hm7, hm8⟩ := id hA
  have hok := hInv.1
  have hM := hok.1
  have hCR := hT.1
  have hcT := hCR.2.1
  have hcS := hCR.2.2.1
  have hcK := hCR.2.2.2.1
  have hcL := hCR.2.2.2.2.1
  have hst3 : ∀ t : Nat, (t : Int) < m 1 → 0 ≤ m (258 + 14 * t) ∧ m (258 + 14 * t) ≤ 2 := fun t ht => (hst2 t ht).1
  obtain ⟨f14, f16, was, pln, r14, f8, f9, f10, f11, f12, f13, s, r11, hB0⟩ := id hMH
  obtain ⟨v1, hh, ⟨yy, rfl, F1, sz, P1, E1, rP, hD1, hQ⟩, R1⟩ := (rd_whole (G := G) (l := l) 0 hK.d hta.1 hta.2.1 (by unfold kA; omega) f11 f12).ex
  have hK1 := hK.ofF (by omega) F1 hD1
  have rE : InR E1 := by
    rcases hQ with ⟨-, q, -⟩ | ⟨-, -, q1, q2⟩
    · rw [q]; decide
    · exact ⟨by omega, by omega⟩
  have hst1 := hst.kp F1.Old (fun b hb => Or.inl (by unfold kBlk at hb; omega))
  have hke1 := hke.kp F1.Old (fun b w e hb => by have := hke.lo e; unfold wBlk at hb; unfold kBlk; omega)
  have htk1 := htk.kp F1.Old (fun b r e hb => by have := htk.lo e; unfold rBlk at hb; unfold kBlk; omega)
  have hnm : namS (clip ft zt) 0 zt.toNat → yy = nmY (clip ft zt) 0 zt.toNat → (∀ j, 0 ≤ j → j < zt.toNat → isLt (ft j)) ∧ (1 ≤ zt.toNat ∧ zt.toNat ≤ 7) ∧ yy = nmY ft 0 zt.toNat ∧ hnL c nm yy N 0 = hbL m ft 0 zt.toNat N 0 := by
    intro q3 q4
    obtain ⟨p1, p2, p3, p4⟩ := q3
    have hl : ∀ j, 0 ≤ j → j < zt.toNat → isLt (ft j) := fun j h0 hj => by
      have z := p3 j h0 hj
      unfold clip at z
      rw [if_pos (by omega)] at z
      exact z
    have ey : yy = nmY ft 0 zt.toNat := by
      rw [q4]
      exact nmY_c (fun j h0 hj => by unfold clip; rw [if_pos (by omega)])
    refine ⟨hl, ⟨by omega, by omega⟩, ey, ?_⟩
    rw [ey]
    exact (hb_hn hcT hst3 hl ⟨by omega, by omega⟩ N 0 (by omega)).symm
  by_cases w : 0 ≤ a ∧ a ≤ m 1 - 1
  · obtain ⟨q, rfl⟩ : ∃ q : Nat, a = q := ⟨a.toNat, by omega⟩
    have eq : ((q : Int)).toNat = q := by omega
    have e58 : ((258 : Int) + 14 * (q : Int)).toNat = 258 + 14 * q := by omega
    have t0 : c (32 + 3 * q) = 0 ↔ m (258 + 14 * q) = 0 := by rw [(hcT q (by omega)).1]; exact swT_0 (hst3 q (by omega))
    by_cases w2 : m (258 + 14 * q) = 0
    · have cd : closeDo m q := ⟨w, by rw [e58]; exact w2⟩
      have t1 := t0.mpr w2
      have ez : ((zt.toNat : Nat) : Int) = zt := by omega
      have hA2 := all_rename (f11 := f11) (f12 := f12) (len := zt.toNat) (t := q) hA hta.2.1 r11 (by omega)
      rw [ez] at hA2
      rcases hQ with ⟨q1, q2, q3, q4⟩ | ⟨q1, q2, q3, q4⟩
      · obtain ⟨n1, n2, n3, n4⟩ := hnm q3 q4
        by_cases w3 : 0 ≤ hbL m ft 0 zt.toNat N 0
        · have er : renF m ft q zt f11 f12 = (-3, m) := by unfold renF; rw [if_pos q1, show (m 1).toNat = N by omega, if_pos w3]
          rw [← n4] at w3
          refine TWO.of2 (dm := 1000) (z := .int (J (-3))) (f4' := f4) (m' := m) (kpm' := kpm) (pool' := pool) (zt' := 0) (ft' := ft) (f18' := f18) (pap' := pap) (rwd' := rwd) (rw' := rw) (Nat.le_of_ble_eq_true rfl) (Nat.le_of_ble_eq_true rfl) ⟨_, rfl⟩ hSZ hMH ((kg_rename 17 hK hc hC ha rE (fun _ _ => R1) (fun _ _ => hK1) cN N90).mono (fun v h' q0 => ?_)) (fun h1 m1e m1s => ?_) ?_
          · rw [eq] at q0
            rcases q0 with q0 | q0 | q0 | q0 | q0
            · exfalso; omega
            · exfalso; omega
            · exfalso; omega
            · exact ⟨q0.2.2.1, CP.of3 hxy F1 (by omega) q0.2.2.2.2 q0.2.2.2.1 hT hst1 hke1 htk1 hro hpa⟩
            · exfalso; omega
          · have hB := hB0.kq m1e m1s
            refine ((m_rename hB hok hta.2.1 hta.1 r11 ha).deeper (Nat.le_of_ble_eq_true rfl)).mono (fun v h2 q0 => ?_)
            rcases q0 with ⟨q1, -⟩ | ⟨-, q1, q2, q3⟩
            · exact absurd cd q1
            · rw [eq, er] at q1 q2
              exact ⟨q1, ⟨f14, f16, was, pln, r14, q2⟩, q3⟩
          · exact hSO.tape ⟨⟨by omega, by omega⟩, hta.2.1, fun j hj => by omega⟩
        · have er : renF m ft q zt f11 f12 = (zt, namesM m ft q 0 zt.toNat) := by unfold renF; rw [if_pos q1, show (m 1).toNat = N by omega, if_neg w3]
          rw [← n4] at w3
          rw [er] at hA2
          dsimp only at hA2
          have hT2 := ctr_rename hT hTk hok (rc := ft) (t := q) (e := zt.toNat) (by omega) n2 (fun j hj => n1 j (by omega) hj)
          have el : lnL yy 7 0 = zt := by
            rw [n3, lnL_n (fun j h0 hj => n1 j h0 hj) ⟨by omega, by omega⟩ 7 0 (by omega) (by omega)]
            omega
          refine TWO.of2 (dm := 1000) (z := .int (J (zt))) (f4' := f4) (m' := namesM m ft q 0 zt.toNat) (kpm' := kpm) (pool' := pool) (zt' := 0) (ft' := ft) (f18' := f18) (pap' := pap) (rwd' := rwd) (rw' := rw) (Nat.le_of_ble_eq_true rfl) (Nat.le_of_ble_eq_true rfl) ⟨_, rfl⟩ hSZ hMH ((kg_rename 17 hK hc hC ha rE (fun _ _ => R1) (fun _ _ => hK1) cN N90).mono (fun v h' q0 => ?_)) (fun h1 m1e m1s => ?_) ?_
          · rw [eq, el] at q0
            rcases q0 with q0 | q0 | q0 | q0 | q0
            · exfalso; omega
            · exfalso; omega
            · exfalso; omega
            · exfalso; omega
            · rw [← n3] at hT2
              exact ⟨q0.2.2.1, CP.of3 hxy F1 (by omega) q0.2.2.2.2 q0.2.2.2.1 hT2 hst1 hke1 htk1 hro hpa⟩
          · have hB := hB0.kq m1e m1s
            refine ((m_rename hB hok hta.2.1 hta.1 r11 ha).deeper (Nat.le_of_ble_eq_true rfl)).mono (fun v h2 q0 => ?_)
            rcases q0 with ⟨q1, -⟩ | ⟨-, q1, q2, q3⟩
            · exact absurd cd q1
            · rw [eq, er] at q1 q2
              exact ⟨q1, ⟨f14, f16, was, pln, r14, q2⟩, q3⟩
          · obtain ⟨⟨u1, u2⟩, ⟨u3, u4⟩, u5, u6⟩ := hSO.up
            exact ⟨⟨hA2.1.up (by omega) (by omega), u2⟩, ⟨u3, fun e => ⟨(u4 e).1, by rw [hA2.2]; exact (u4 e).2⟩⟩, ⟨⟨by omega, by omega⟩, hta.2.1, fun j hj => by omega⟩, u6⟩
      · have er : renF m ft q zt f11 f12 = (-100 - E1, m) := by unfold renF; rw [if_neg (by rw [q1]; decide), ← q2]
        refine TWO.of2 (dm := 1000) (z := .int (J (-100 - E1))) (f4' := f4) (m' := m) (kpm' := kpm) (pool' := pool) (zt' := 0) (ft' := ft) (f18' := f18) (pap' := pap) (rwd' := rwd) (rw' := rw) (Nat.le_of_ble_eq_true rfl) (Nat.le_of_ble_eq_true rfl) ⟨_, rfl⟩ hSZ hMH ((kg_rename 17 hK hc hC ha rE (fun _ _ => R1) (fun _ _ => hK1) cN N90).mono (fun v h' q0 => ?_)) (fun h1 m1e m1s => ?_) ?_
        · rw [eq] at q0
          rcases q0 with q0 | q0 | q0 | q0 | q0
          · exfalso; omega
          · exfalso; omega
          · exact ⟨q0.2.2.1, CP.of3 hxy F1 (by omega) q0.2.2.2.2 q0.2.2.2.1 hT hst1 hke1 htk1 hro hpa⟩
          · exfalso; omega
          · exfalso; omega
        · have hB := hB0.kq m1e m1s
          refine ((m_rename hB hok hta.2.1 hta.1 r11 ha).deeper (Nat.le_of_ble_eq_true rfl)).mono (fun v h2 q0 => ?_)
          rcases q0 with ⟨q1, -⟩ | ⟨-, q1, q2, q3⟩
          · exact absurd cd q1
          · rw [eq, er] at q1 q2
            exact ⟨q1, ⟨f14, f16, was, pln, r14, q2⟩, q3⟩
        · exact hSO.tape ⟨⟨by omega, by omega⟩, hta.2.1, fun j hj => by omega⟩
    · have cd : ¬ closeDo m q := fun z => w2 (by have := z.2; rwa [e58] at this)
      have t1 : ¬ c (32 + 3 * q) = 0 := fun z => w2 (t0.mp z)
      have ev : closeN m q = -3 := by unfold closeN; rw [if_pos w]
      refine TWO.ask (z := .int (J (-3))) (Nat.le_of_ble_eq_true rfl) (Nat.le_of_ble_eq_true rfl) ⟨_, rfl⟩ hCH hMH hSO hSZ ((kg_rename 17 hK hc hC ha rE (fun _ _ => R1) (fun _ _ => hK1) cN N90).mono (fun v h' q0 => ?_)) (fun h1 f8 f9 f10 f11 f12 f13 f14 f16 was pln s r14 r11 hB => (m_rename hB hok hta.2.1 hta.1 r11 ha).mono (fun v h2 q0 => ?_))
      · rw [eq] at q0
        rcases q0 with q0 | q0 | q0 | q0 | q0
        · exfalso; omega
        · exact ⟨q0.2.2.1, q0.2.2.2⟩
        · exfalso; omega
        · exfalso; omega
        · exfalso; omega
      · rcases q0 with ⟨-, q1, q2⟩ | ⟨q1, -⟩
        · rw [ev] at q1; exact ⟨q1, q2⟩
        · exact absurd q1 cd
  · have cd : ¬ closeDo m a := fun z => w z.1
    have ev : closeN m a = -1 := by unfold closeN; rw [if_neg w]
    refine TWO.ask (z := .int (J (-1))) (Nat.le_of_ble_eq_true rfl) (Nat.le_of_ble_eq_true rfl) ⟨_, rfl⟩ hCH hMH hSO hSZ ((kg_rename 17 hK hc hC ha rE (fun _ _ => R1) (fun _ _ => hK1) cN N90).mono (fun v h' q0 => ?_)) (fun h1 f8 f9 f10 f11 f12 f13 f14 f16 was pln s r14 r11 hB => (m_rename hB hok hta.2.1 hta.1 r11 ha).mono (fun v h2 q0 => ?_))
    · rcases q0 with q0 | q0 | q0 | q0 | q0
      · exact ⟨q0.2.1, q0.2.2⟩
      · exfalso; omega
      · exfalso; omega
      · exfalso; omega
      · exfalso; omega
    · rcases q0 with ⟨-, q1, q2⟩ | ⟨q1, -⟩
      · rw [ev] at q1; exact ⟨q1, q2⟩
      · exact absurd q1 cd

/-! ===== take, task on both ===== -/
/-- what lies in the heap of the steps that were read, and those that were there -/
def grS (S : Nat → Option mO) (h hh : mH) : Nat → Option mO := fun a => if h.2.1 ≤ a ∧ a < hh.2.1 then hGet hh a else S a
section H0
variable {sg : Bool} {x y n : Nat} {h hh h1 h' : mH} {S : Nat → Option mO} {f4 : Int} {m kpm pool pool' : Nat → Int}
theorem grS_old (k : stR y h S) {a : Nat} {o : mO} (e : S a = some o) : grS S h hh a = some o := by
  have := (k a o e).2.2
  unfold grS
  rw [if_neg (by omega)]
  exact e
theorem grS_new {a : Nat} (h1 : h.2.1 ≤ a) (h2 : a < hh.2.1) : grS S h hh a = hGet hh a := by unfold grS; rw [if_pos ⟨h1, h2⟩]
theorem grS_none {a : Nat} (h1 : a < h.2.1) (e : S a = none) : grS S h hh a = none := by unfold grS; rw [if_neg (by omega)]; exact e
theorem stR.gr (k : stR y h S) (hxy : x + 196 ≤ y ∧ y + 10 ≤ h.2.1) (F : FrR (kA x 1) h hh) : stR y hh (grS S h hh) := by
  intro a o e
  have f2 := F.2.1
  unfold grS at e
  split at e
  · rename_i c
    exact ⟨e, by omega, c.2⟩
  · obtain ⟨k1, k2, k3⟩ := k a o e
    exact ⟨(F.2.2.2 a k3 (by unfold dBlk kA; omega)).trans k1, k2, by omega⟩
theorem keR.gr {kp : Option Nat} {B T : Int} (k : keR y h S kp f4 kpm pool) (hxy : x + 196 ≤ y ∧ y + 10 ≤ h.2.1) (F : FrR (kA x 1) h hh) (hst : stR y h S) (hp : ∀ q : Nat, (q : Int) < m 8 → pool' q = pool q) (hA : f4 = 1 → All kpm pool B T ∧ kpm 8 ≤ m 8) : keR y hh (grS S h hh) kp f4 kpm pool' := by
  have f2 := F.2.1
  rcases k with k | ⟨w, c, C, nm, g, ⟨k1, k2⟩, ⟨k3, k4⟩, k5, k6, k7⟩
  · exact Or.inl k
  · obtain ⟨a1, a2⟩ := hA k2
    exact Or.inr ⟨w, c, C, nm, g, ⟨k1, k2⟩, ⟨k3, by omega⟩, fun a ha => grS_none (by unfold wBlk at ha; omega) (k5 a ha), k6.keep2 F.1 (fun b hb => F.2.2.2 b (by unfold wBlk at hb; omega) (by unfold wBlk at hb; unfold dBlk kA; omega)), ctr_grow k7 a1.1.1 a1.2.1 (fun a o e => grS_old hst e) (fun q hq => hp q (by omega))⟩
theorem tkR.gr {kp tk : Option Nat} (k : tkR y h S kp tk) (hxy : x + 196 ≤ y ∧ y + 10 ≤ h.2.1) (F : FrR (kA x 1) h hh) : tkR y hh (grS S h hh) kp tk := by
  have f2 := F.2.1
  rcases k with k | ⟨r, b, f, c, C, nm, g, k1, ⟨k3, k4⟩, k5, k6, k7, k8⟩
  · exact Or.inl k
  · exact Or.inr ⟨r, b, f, c, C, nm, g, k1, ⟨k3, by omega⟩, fun a ha => grS_none (by unfold rBlk at ha; omega) (k5 a ha), k6, k7.keep2 F.1 (fun b hb => F.2.2.2 b (by unfold rBlk at hb; omega) (by unfold rBlk at hb; unfold dBlk kA; omega)), k8⟩
/-- the text that was read lies in the pool -/
theorem stL_pool {ft : Nat → Int} {zt : Int} {len P d N b : Nat} {it : Bool} (hz : zt = (len : Int)) (hd : d ≤ len) (hb : h.2.1 ≤ b) (k : stL (hGet hh) (clip ft zt) N it 0 b hh.2.1 d len) : stL (grS S h hh) (pooledP pool ft P d len) N it 0 b hh.2.1 P (P + (len - d)) := by
  have k1 := stL_c N N (Nat.le_refl _) it 0 b hh.2.1 hh.2.1 d len (Nat.le_refl _) (S' := grS S h hh) (fun q h1 h2 => grS_new (by omega) h2) k
  have k2 := stL_2 (sr := clip ft zt) (sr' := pooledP pool ft P d len) (d := d) (d' := P) N it 0 b hh.2.1 0 (len - d) (fun j _ hj => by
    have y := pooledP_cl (pool := pool) (tape := ft) (p := P) (a := d) (b := len) (i := j) hj hd
    rw [hz, show j + P = P + j by omega, show j + d = d + j by omega]
    exact y) (by rw [Nat.zero_add, show len - d + d = len by omega]; exact k1)
  rw [Nat.zero_add, show len - d + P = P + (len - d) by omega] at k2
  exact k2
end H0

set_option maxHeartbeats 4000000 in
set_option maxRecDepth 100000 in
theorem two_take {sg : Bool} {G : mG} {l : Launch} (hG : G.2.map Prod.snd = mTy) {x y n0 : Nat} {h : mH} (hn0 : n0 ≤ 600) (hI : RI sg x y n0 h) {a : Int} (ha : InR a) : TWO sg G l x y n0 false mX10_take mX11_take [.int (J a)] h := by
  obtain ⟨f4, m, kpm, pool, zt, ft, f18, pap, rwd, rw, hCH, hMH, hSO, hSZ⟩ := hI
  obtain ⟨S, kp, tk, zr, fr, p, e, o, zs, fs, b, fa, c, C, nm, g, hK, ⟨hT, hst, hke, htk⟩, hro, hpa, hxy⟩ := id hCH
  obtain ⟨⟨hA, hPo⟩, hkp, hta, h18, hrw⟩ := id hSO
  obtain ⟨N, K, T, Z, F, hX⟩ := fx_of hT hA
  obtain ⟨⟨mN, cN, N90⟩, ⟨mK, cK, K1, K60⟩, ⟨mT, cT, T10⟩, ⟨cZ, Z150⟩, ⟨⟨c11, c12, c13⟩, F90, c4⟩, ⟨hO, hpR, hpO, hoO⟩, ⟨c8, c9, L0, L90⟩, ⟨hc, hC⟩, hst2, htp⟩ := id hX
  obtain ⟨⟨hInv, hsc, hnc, hns⟩, hTk, hm7, hm8⟩ := id hA
  have hok := hInv.1
  have hM := hok.1
  have hCR := hT.1
  have hcT := hCR.2.1
  have hcS := hCR.2.2.1
  have hcK := hCR.2.2.2.1
  have hcL := hCR.2.2.2.2.1
  have hst3 : ∀ t : Nat, (t : Int) < m 1 → 0 ≤ m (258 + 14 * t) ∧ m (258 + 14 * t) ≤ 2 := fun t ht => (hst2 t ht).1
  obtain ⟨f14, f16, was, pln, r14, f8, f9, f10, f11, f12, f13, s, r11, hB0⟩ := id hMH
  have ez : ((zt.toNat : Nat) : Int) = zt := by omega
  obtain ⟨v1, hh, ⟨F1, sz, P1, E1, O1, rP, rO, hD1, hQ⟩, R1⟩ := (rd_thing (G := G) (l := l) hK.d hta.1 hta.2.1 (by unfold kA; omega) f11 f12).ex
  have hK1 := hK.ofF (by omega) F1 hD1
  have hst1 := hst.kp F1.Old (fun b hb => Or.inl (by unfold kBlk at hb; omega))
  have hke1 := hke.kp F1.Old (fun b w e hb => by have := hke.lo e; unfold wBlk at hb; unfold kBlk; omega)
  have htk1 := htk.kp F1.Old (fun b r e hb => by have := htk.lo e; unfold rBlk at hb; unfold kBlk; omega)
  by_cases w : 0 ≤ a ∧ a ≤ m 0 - 1
  · skip
    obtain ⟨q, rfl⟩ : ∃ q : Nat, a = q := ⟨a.toNat, by omega⟩
    have e18 : ((18 : Int) + 4 * (q : Int)).toNat = 18 + 4 * q := by omega
    have eq : ((q : Int)).toNat = q := by omega
    have s0 : c (304 + 3 * q) = 0 ↔ m (18 + 4 * q) = 0 := by rw [(hcS q (by omega)).1]; exact swT_0 (hsc.2.2 q (by omega)).1
    have hop : openP m (q : Int) ↔ m (18 + 4 * q) = 0 := ⟨fun z => by have := z.2.2; rwa [e18] at this, fun z => ⟨w.1, w.2, by rw [e18]; exact z⟩⟩
    by_cases w2 : m (18 + 4 * q) = 0
    · have cd : openP m (q : Int) := hop.mpr w2
      have t1 := s0.mpr w2
      rcases hQ with ⟨u1, u2, rfl, u4, u5, inn, u6, u7⟩ | ⟨u1, u2, u3, u4, rfl⟩
      · have rE : InR E1 := by rw [u2]; decide
        obtain ⟨p1, p2, p3, p4⟩ := u5
        have tz : (takeE ft zt f11 f12 : Int) ≤ zt := by rcases u7 with ⟨z, -⟩ | ⟨z, -⟩ <;> omega
        have hl : ∀ j, 0 ≤ j → j < takeE ft zt f11 f12 → isLt (ft j) := fun j h0 hj => by
          have z := p3 j h0 hj
          unfold clip at z
          rw [if_pos (by omega)] at z
          exact z
        have ey : nmY (clip ft zt) 0 (takeE ft zt f11 f12) = nmY ft 0 (takeE ft zt f11 f12) := nmY_c (fun j h0 hj => by unfold clip; rw [if_pos (by omega)])
        rw [ey] at u6
        have n4 : hnL c nm (nmY ft 0 (takeE ft zt f11 f12)) N 0 = hbL m ft 0 (takeE ft zt f11 f12) N 0 := (hb_hn hcT hst3 hl ⟨by omega, by omega⟩ N 0 (by omega)).symm
        have hTx := all_take (f11 := f11) (f12 := f12) (len := zt.toNat) (a := (q : Int)) hA hPo hta.2.1 (by omega) r11 cd (by omega)
        rw [ez] at hTx
        by_cases w3 : m 1 = 90
        · have er : takeF m pool ft q zt.toNat (takeE ft zt f11 f12) (takeR ft zt f11 f12) = (-4, m, pool) := by unfold takeF; rw [ez, if_pos u1, if_pos w3]
          refine TWO.of2 (dm := 1000) (z := .int (J (-4))) (f4' := f4) (m' := m) (kpm' := kpm) (pool' := pool) (zt' := 0) (ft' := ft) (f18' := f18) (pap' := pap) (rwd' := rwd) (rw' := rw) (Nat.le_of_ble_eq_true rfl) (Nat.le_of_ble_eq_true rfl) ⟨_, rfl⟩ hSZ hMH ((kg_takeT 17 hK hc hC ha (s := h.2.1) rE (fun _ => R1) (fun _ => hK1) cN N90 cZ Z150 (fun _ => u6) (by unfold kBlk; omega)).mono (fun v h' q0 => ?_)) (fun h1 m1e m1s => ?_) ?_
          · rw [eq] at q0
            rcases q0 with q0 | q0 | q0 | q0 | q0
            · exfalso; omega
            · exfalso; omega
            · exact ⟨q0.2.2.1, CP.of3 hxy F1 (by omega) q0.2.2.2.2 q0.2.2.2.1 hT hst1 hke1 htk1 hro hpa⟩
            · exfalso; omega
            · exfalso; omega
          · have hB := hB0.kq m1e m1s
            refine ((m_take hB hok hta.2.1 hta.1 r11 ⟨hInv.2.1.2.1, by have := hInv.2.1.2.2; omega⟩ ha).deeper (Nat.le_of_ble_eq_true rfl)).mono (fun v h2 q0 => ?_)
            rcases q0 with ⟨q1, -⟩ | ⟨-, q1, q2, q3⟩
            · exact absurd cd q1
            · rw [er] at q1 q2
              exact ⟨q1, ⟨f14, f16, was, pln, r14, q2⟩, q3⟩
          · exact hSO.tape ⟨⟨by omega, by omega⟩, hta.2.1, fun j hj => by omega⟩
        · by_cases w4 : 0 ≤ hbL m ft 0 (takeE ft zt f11 f12) N 0
          · have er : takeF m pool ft q zt.toNat (takeE ft zt f11 f12) (takeR ft zt f11 f12) = (-3, m, pool) := by unfold takeF; rw [ez, if_pos u1, if_neg w3, show (m 1).toNat = N by omega, if_pos w4]
            rw [← n4] at w4
            refine TWO.of2 (dm := 1000) (z := .int (J (-3))) (f4' := f4) (m' := m) (kpm' := kpm) (pool' := pool) (zt' := 0) (ft' := ft) (f18' := f18) (pap' := pap) (rwd' := rwd) (rw' := rw) (Nat.le_of_ble_eq_true rfl) (Nat.le_of_ble_eq_true rfl) ⟨_, rfl⟩ hSZ hMH ((kg_takeT 17 hK hc hC ha (s := h.2.1) rE (fun _ => R1) (fun _ => hK1) cN N90 cZ Z150 (fun _ => u6) (by unfold kBlk; omega)).mono (fun v h' q0 => ?_)) (fun h1 m1e m1s => ?_) ?_
            · rw [eq] at q0
              rcases q0 with q0 | q0 | q0 | q0 | q0
              · exfalso; omega
              · exfalso; omega
              · exfalso; omega
              · exact ⟨q0.2.2.1, CP.of3 hxy F1 (by omega) q0.2.2.2.2 q0.2.2.2.1 hT hst1 hke1 htk1 hro hpa⟩
              · exfalso; omega
            · have hB := hB0.kq m1e m1s
              refine ((m_take hB hok hta.2.1 hta.1 r11 ⟨hInv.2.1.2.1, by have := hInv.2.1.2.2; omega⟩ ha).deeper (Nat.le_of_ble_eq_true rfl)).mono (fun v h2 q0 => ?_)
              rcases q0 with ⟨q1, -⟩ | ⟨-, q1, q2, q3⟩
              · exact absurd cd q1
              · rw [er] at q1 q2
                exact ⟨q1, ⟨f14, f16, was, pln, r14, q2⟩, q3⟩
            · exact hSO.tape ⟨⟨by omega, by omega⟩, hta.2.1, fun j hj => by omega⟩
          · have w5 := w4
            rw [← n4] at w5
            rcases u7 with ⟨t3, rfl⟩ | ⟨t3, t4, b2, NN, rfl, t5, t6, t7⟩
            · have er : takeF m pool ft q zt.toNat (takeE ft zt f11 f12) (takeR ft zt f11 f12) = (m 1, takesM m ft N q 0 (takeE ft zt f11 f12) 0 0, pool) := by unfold takeF; rw [ez, if_pos u1, if_neg w3, show (m 1).toNat = N by omega, if_neg w4, if_pos (by omega)]
              rw [er] at hTx
              obtain ⟨x1, x2, x3, x4⟩ := hTx
              dsimp only at x1 x4
              have hT2 := ctr_take hT hTk hok (rc := ft) (o := (q : Int)) (inn := none) (P := 0) (E := 0) (fr := 0) (to := takeE ft zt f11 f12) mN (by omega) ⟨by omega, by omega⟩ (by omega) hl ⟨by omega, by omega⟩ (Or.inl ⟨rfl, rfl⟩) cZ
              refine TWO.of2 (dm := 1000) (z := .int (J ((N : Int)))) (f4' := f4) (m' := takesM m ft N q 0 (takeE ft zt f11 f12) 0 0) (kpm' := kpm) (pool' := pool) (zt' := 0) (ft' := ft) (f18' := f18) (pap' := pap) (rwd' := rwd) (rw' := rw) (Nat.le_of_ble_eq_true rfl) (Nat.le_of_ble_eq_true rfl) ⟨_, rfl⟩ hSZ hMH ((kg_takeT 17 hK hc hC ha (s := h.2.1) rE (fun _ => R1) (fun _ => hK1) cN N90 cZ Z150 (fun _ => u6) (by unfold kBlk; omega)).mono (fun v h' q0 => ?_)) (fun h1 m1e m1s => ?_) ?_
              · rw [eq] at q0
                rcases q0 with q0 | q0 | q0 | q0 | q0
                · exfalso; omega
                · exfalso; omega
                · exfalso; omega
                · exfalso; omega
                · exact ⟨q0.2.2.1, CP.of3 hxy F1 (by omega) q0.2.2.2.2 q0.2.2.2.1 hT2 hst1 hke1 htk1 hro hpa⟩
              · have hB := hB0.kq m1e m1s
                refine ((m_take hB hok hta.2.1 hta.1 r11 ⟨hInv.2.1.2.1, by have := hInv.2.1.2.2; omega⟩ ha).deeper (Nat.le_of_ble_eq_true rfl)).mono (fun v h2 q0 => ?_)
                rcases q0 with ⟨q1, -⟩ | ⟨-, q1, q2, q3⟩
                · exact absurd cd q1
                · rw [er, mN] at q1 q2
                  exact ⟨q1, ⟨f14, f16, was, pln, r14, q2⟩, q3⟩
              · obtain ⟨⟨s1, s2⟩, ⟨s3, s4⟩, s5, s6⟩ := hSO.up
                exact ⟨⟨x1.up (by omega) (by omega), s2⟩, ⟨s3, fun e => ⟨(s4 e).1, Int.le_trans (s4 e).2 x4⟩⟩, ⟨⟨by omega, by omega⟩, hta.2.1, fun j hj => by omega⟩, s6⟩
            · obtain ⟨P, hP⟩ : ∃ P : Nat, m 8 = P := ⟨(m 8).toNat, by have := hInv.2.1.2.1; omega⟩
              have er : takeF m pool ft q zt.toNat (takeE ft zt f11 f12) (takeR ft zt f11 f12) = (m 1, takesM (updI m 8 (m 8 + (zt.toNat - (takeE ft zt f11 f12 + 1) : Nat) + 1)) ft N q 0 (takeE ft zt f11 f12) (P : Int) ((P + (zt.toNat - (takeE ft zt f11 f12 + 1)) : Nat) : Int), pooledP pool ft P (takeE ft zt f11 f12 + 1) zt.toNat) := by
                unfold takeF
                rw [ez, if_pos u1, if_neg w3, show (m 1).toNat = N by omega, if_neg w4, if_neg (by omega), show (m 8).toNat = P by omega, show m 8 + zt - (takeE ft zt f11 f12 : Int) - 1 = ((P + (zt.toNat - (takeE ft zt f11 f12 + 1)) : Nat) : Int) by omega, hP]
              rw [er] at hTx
              obtain ⟨x1, x2, x3, x4⟩ := hTx
              dsimp only at x1 x2 x3 x4
              have hT1 := ctr_grow hT hInv hTk (S' := grS S h hh) (fun a o e => grS_old hst e) x3
              have hA1 := hA.pool x3
              have hG1 := hA.grow (b := m 8 + (zt.toNat - (takeE ft zt f11 f12 + 1) : Nat) + 1) (pool' := pooledP pool ft P (takeE ft zt f11 f12 + 1) zt.toNat) ⟨by omega, by have := hA.2.2.2; omega⟩ x3
              have hT3 := ctr_m8 hT1 hA1.2.1 hok (v := m 8 + (zt.toNat - (takeE ft zt f11 f12 + 1) : Nat) + 1)
              have hT2 := ctr_take hT3 hG1.2 hG1.1.1.1 (rc := ft) (o := (q : Int)) (inn := some b2) (P := P) (E := P + (zt.toNat - (takeE ft zt f11 f12 + 1))) (fr := 0) (to := takeE ft zt f11 f12) (N := N) ((updI_n (by omega)).trans mN) (by omega) ⟨by omega, by omega⟩ (by omega) hl ⟨by omega, by omega⟩ (Or.inr ⟨b2, hh.2.1, NN, rfl, stL_pool ez.symm (by omega) (by omega) t7⟩) cZ
              refine TWO.of2 (dm := 1000) (z := .int (J ((N : Int)))) (f4' := f4) (m' := takesM (updI m 8 (m 8 + (zt.toNat - (takeE ft zt f11 f12 + 1) : Nat) + 1)) ft N q 0 (takeE ft zt f11 f12) (P : Int) ((P + (zt.toNat - (takeE ft zt f11 f12 + 1)) : Nat) : Int)) (kpm' := kpm) (pool' := pooledP pool ft P (takeE ft zt f11 f12 + 1) zt.toNat) (zt' := 0) (ft' := ft) (f18' := f18) (pap' := pap) (rwd' := rwd) (rw' := rw) (Nat.le_of_ble_eq_true rfl) (Nat.le_of_ble_eq_true rfl) ⟨_, rfl⟩ hSZ hMH ((kg_takeT 17 hK hc hC ha (s := h.2.1) rE (fun _ => R1) (fun _ => hK1) cN N90 cZ Z150 (fun _ => u6) (by unfold kBlk; omega)).mono (fun v h' q0 => ?_)) (fun h1 m1e m1s => ?_) ?_
              · rw [eq] at q0
                rcases q0 with q0 | q0 | q0 | q0 | q0
                · exfalso; omega
                · exfalso; omega
                · exfalso; omega
                · exfalso; omega
                · exact ⟨q0.2.2.1, CP.of3 hxy F1 (by omega) q0.2.2.2.2 q0.2.2.2.1 hT2 (hst.gr hxy F1) (hke.gr hxy F1 hst x3 hkp.2) (htk.gr hxy F1) hro hpa⟩
              · have hB := hB0.kq m1e m1s
                refine ((m_take hB hok hta.2.1 hta.1 r11 ⟨hInv.2.1.2.1, by have := hInv.2.1.2.2; omega⟩ ha).deeper (Nat.le_of_ble_eq_true rfl)).mono (fun v h2 q0 => ?_)
                rcases q0 with ⟨q1, -⟩ | ⟨-, q1, q2, q3⟩
                · exact absurd cd q1
                · rw [er, mN] at q1 q2
                  exact ⟨q1, ⟨f14, f16, was, pln, r14, q2⟩, q3⟩
              · obtain ⟨⟨s1, s2⟩, ⟨s3, s4⟩, s5, s6⟩ := hSO.up
                exact ⟨⟨x1.up (by omega) (by omega), x2⟩, ⟨s3, fun e => ⟨(s4 e).1.pool (fun z hz => x3 z (by have := (s4 e).2; omega)), Int.le_trans (s4 e).2 x4⟩⟩, ⟨⟨by omega, by omega⟩, hta.2.1, fun j hj => by omega⟩, s6⟩
      · have rE : InR E1 := ⟨by omega, by omega⟩
        have er : takeF m pool ft q zt.toNat (takeE ft zt f11 f12) (takeR ft zt f11 f12) = (-100 - E1, m, pool) := by unfold takeF; rw [ez, if_neg (by rw [u1]; decide), ← u2]
        refine TWO.of2 (dm := 1000) (z := .int (J (-100 - E1))) (f4' := f4) (m' := m) (kpm' := kpm) (pool' := pool) (zt' := 0) (ft' := ft) (f18' := f18) (pap' := pap) (rwd' := rwd) (rw' := rw) (Nat.le_of_ble_eq_true rfl) (Nat.le_of_ble_eq_true rfl) ⟨_, rfl⟩ hSZ hMH ((kg_takeF 17 hK hc hC ha rE (fun _ => R1) (fun _ => hK1)).mono (fun v h' q0 => ?_)) (fun h1 m1e m1s => ?_) ?_
        · rw [eq] at q0
          rcases q0 with q0 | q0 | q0
          · exfalso; omega
          · exfalso; omega
          · exact ⟨q0.2.1, CP.of3 hxy F1 (by omega) q0.2.2.2 q0.2.2.1 hT hst1 hke1 htk1 hro hpa⟩
        · have hB := hB0.kq m1e m1s
          refine ((m_take hB hok hta.2.1 hta.1 r11 ⟨hInv.2.1.2.1, by have := hInv.2.1.2.2; omega⟩ ha).deeper (Nat.le_of_ble_eq_true rfl)).mono (fun v h2 q0 => ?_)
          rcases q0 with ⟨q1, -⟩ | ⟨-, q1, q2, q3⟩
          · exact absurd cd q1
          · rw [er] at q1 q2
            exact ⟨q1, ⟨f14, f16, was, pln, r14, q2⟩, q3⟩
        · exact hSO.tape ⟨⟨by omega, by omega⟩, hta.2.1, fun j hj => by omega⟩
    · have cd : ¬ openP m (q : Int) := fun z => w2 (hop.mp z)
      have t1 : ¬ c (304 + 3 * q) = 0 := fun z => w2 (s0.mp z)
      have ev : openN m q = -3 := by unfold openN; rw [if_pos w]
      refine TWO.ask (z := .int (J (-3))) (Nat.le_of_ble_eq_true rfl) (Nat.le_of_ble_eq_true rfl) ⟨_, rfl⟩ hCH hMH hSO hSZ ((kg_takeF 17 (h1 := h) (p1 := 0) (e1 := 0) (o1 := 0) hK hc hC ha (by decide) (fun z => absurd z.2 (by rw [eq]; exact t1)) (fun z => absurd z.2 (by rw [eq]; exact t1))).mono (fun v h' q0 => ?_)) (fun h1 f8 f9 f10 f11 f12 f13 f14 f16 was pln s r14 r11 hB => (m_take hB hok hta.2.1 hta.1 r11 ⟨hInv.2.1.2.1, by have := hInv.2.1.2.2; omega⟩ ha).mono (fun v h2 q0 => ?_))
      · rw [eq] at q0
        rcases q0 with q0 | q0 | q0
        · exfalso; omega
        · exact ⟨q0.2.2.1, q0.2.2.2⟩
        · exfalso; omega
      · rcases q0 with ⟨-, q1, q2⟩ | ⟨q1, -⟩
        · rw [ev] at q1; exact ⟨q1, q2⟩
        · exact absurd q1 cd
  · have cd : ¬ openP m a := fun z => w ⟨z.1, z.2.1⟩
    have ev : openN m a = -1 := by unfold openN; rw [if_neg w]
    refine TWO.ask (z := .int (J (-1))) (Nat.le_of_ble_eq_true rfl) (Nat.le_of_ble_eq_true rfl) ⟨_, rfl⟩ hCH hMH hSO hSZ ((kg_takeF 17 (h1 := h) (p1 := 0) (e1 := 0) (o1 := 0) hK hc hC ha (by decide) (fun z => absurd z.1 (by omega)) (fun z => absurd z.1 (by omega))).mono (fun v h' q0 => ?_)) (fun h1 f8 f9 f10 f11 f12 f13 f14 f16 was pln s r14 r11 hB => (m_take hB hok hta.2.1 hta.1 r11 ⟨hInv.2.1.2.1, by have := hInv.2.1.2.2; omega⟩ ha).mono (fun v h2 q0 => ?_))
    · rcases q0 with q0 | q0 | q0
      · exact ⟨q0.2.1, q0.2.2⟩
      · exfalso; omega
      · exfalso; omega
    · rcases q0 with ⟨-, q1, q2⟩ | ⟨q1, -⟩
      · rw [ev] at q1; exact ⟨q1, q2⟩
      · exact absurd q1 cd
set_option maxHeartbeats 4000000 in
set_option maxRecDepth 100000 in
theorem two_task {sg : Bool} {G : mG} {l : Launch} (hG : G.2.map Prod.snd = mTy) {x y n0 : Nat} {h : mH} (hn0 : n0 ≤ 600) (hI : RI sg x y n0 h) {a : Int} (ha : InR a) {i : Int} (hi : InR i) : TWO sg G l x y n0 false mX10_task mX11_task [.int (J a), .int (J i)] h := by
  obtain ⟨f4, m, kpm, pool, zt, ft, f18, pap, rwd, rw, hCH, hMH, hSO, hSZ⟩ := hI
  obtain ⟨S, kp, tk, zr, fr, p, e, o, zs, fs, b, fa, c, C, nm, g, hK, ⟨hT, hst, hke, htk⟩, hro, hpa, hxy⟩ := id hCH
  obtain ⟨⟨hA, hPo⟩, hkp, hta, h18, hrw⟩ := id hSO
  obtain ⟨N, K, T, Z, F, hX⟩ := fx_of hT hA
  obtain ⟨⟨mN, cN, N90⟩, ⟨mK, cK, K1, K60⟩, ⟨mT, cT, T10⟩, ⟨cZ, Z150⟩, ⟨⟨c11, c12, c13⟩, F90, c4⟩, ⟨hO, hpR, hpO, hoO⟩, ⟨c8, c9, L0, L90⟩, ⟨hc, hC⟩, hst2, htp⟩ := id hX
  obtain ⟨⟨hInv, hsc, hnc, hns⟩, hTk, hm7, hm8⟩ := id hA
  have hok := hInv.1
  have hM := hok.1
  have hCR := hT.1
  have hcT := hCR.2.1
  have hcS := hCR.2.2.1
  have hcK := hCR.2.2.2.1
  have hcL := hCR.2.2.2.2.1
  have hst3 : ∀ t : Nat, (t : Int) < m 1 → 0 ≤ m (258 + 14 * t) ∧ m (258 + 14 * t) ≤ 2 := fun t ht => (hst2 t ht).1
  obtain ⟨f14, f16, was, pln, r14, f8, f9, f10, f11, f12, f13, s, r11, hB0⟩ := id hMH
  have ez : ((zt.toNat : Nat) : Int) = zt := by omega
  obtain ⟨v1, hh, ⟨F1, sz, E1, O1, rO, hD1, hQ⟩, R1⟩ := (rd_task (G := G) (l := l) 0 hK.d hta.1 hta.2.1 (by unfold kA; omega) f11 f12).ex
  have hK1 := hK.ofF (by omega) F1 hD1
  have hst1 := hst.kp F1.Old (fun b hb => Or.inl (by unfold kBlk at hb; omega))
  have hke1 := hke.kp F1.Old (fun b w e hb => by have := hke.lo e; unfold wBlk at hb; unfold kBlk; omega)
  have htk1 := htk.kp F1.Old (fun b r e hb => by have := htk.lo e; unfold rBlk at hb; unfold kBlk; omega)
  by_cases w : 0 ≤ a ∧ a ≤ m 0 - 1
  · skip
    obtain ⟨q, rfl⟩ : ∃ q : Nat, a = q := ⟨a.toNat, by omega⟩
    have e18 : ((18 : Int) + 4 * (q : Int)).toNat = 18 + 4 * q := by omega
    have eq : ((q : Int)).toNat = q := by omega
    have s0 : c (304 + 3 * q) = 0 ↔ m (18 + 4 * q) = 0 := by rw [(hcS q (by omega)).1]; exact swT_0 (hsc.2.2 q (by omega)).1
    have hop : openP m (q : Int) ↔ m (18 + 4 * q) = 0 := ⟨fun z => by have := z.2.2; rwa [e18] at this, fun z => ⟨w.1, w.2, by rw [e18]; exact z⟩⟩
    by_cases w6 : -99 ≤ i ∧ i ≤ 99
    · by_cases w2 : m (18 + 4 * q) = 0
      · have t1 := s0.mpr w2
        by_cases w7 : T < 10 ∧ K < 60
        · have cd : taskDo m q i := ⟨w, w6, hop.mpr w2, by omega, by omega⟩
          rcases hQ with ⟨u1, u2, rfl, u4, u5, NN, u6⟩ | ⟨u1, u2, u3, u4, rfl⟩
          · have rE : InR E1 := by rw [u2]; decide
            obtain ⟨P, hP⟩ : ∃ P : Nat, m 8 = P := ⟨(m 8).toNat, by have := hInv.2.1.2.1; omega⟩
            have hTx := all_task (f11 := f11) (f12 := f12) (len := zt.toNat) (a := (q : Int)) hA hPo hta.2.1 (by omega) r11 cd (by omega)
            have er : taskF m pool ft q i zt.toNat f11 f12 = ((T : Int), newTaskM m q i zt.toNat, pooledP pool ft P 0 zt.toNat) := by unfold taskF; rw [ez, if_pos u1, mT, show (m 8).toNat = P by omega]
            rw [er] at hTx
            obtain ⟨x1, x2, x3, x4⟩ := hTx
            dsimp only at x1 x2 x3 x4
            have hT1 := ctr_grow hT hInv hTk (S' := grS S h hh) (fun a o e => grS_old hst e) x3
            have hA1 := hA.pool x3
            have h6 : InR (m 6 + 1) := by
              have := hInv.2.2.2.2.1
              exact ⟨by omega, by omega⟩
            have tx := stL_pool (S := S) (pool := pool) (P := P) ez.symm (Nat.zero_le _) (Nat.le_refl _) u6
            rw [Nat.sub_zero] at tx
            have hT2 := ctr_task hT1 hA1.2.1 hok (by omega) h6 ⟨by omega, by have := hInv.2.1.2.2; omega⟩ mT (by omega) mK (by omega) (a := q) (by omega) w6 hP (by omega) cZ tx
            refine TWO.of2 (dm := 1000) (z := .int (J ((T : Int)))) (f4' := f4) (m' := newTaskM m q i zt.toNat) (kpm' := kpm) (pool' := pooledP pool ft P 0 zt.toNat) (zt' := 0) (ft' := ft) (f18' := f18) (pap' := pap) (rwd' := rwd) (rw' := rw) (Nat.le_of_ble_eq_true rfl) (Nat.le_of_ble_eq_true rfl) ⟨_, rfl⟩ hSZ hMH ((kg_taskT 17 hK hc hC ha hi cT T10 cK K60 cZ Z150 (s := h.2.1) rE (fun _ => R1) (fun _ => hK1)).mono (fun v h' q0 => ?_)) (fun h1 m1e m1s => ?_) ?_
            · rw [eq] at q0
              rcases q0 with q0 | q0 | q0 | q0 | q0
              · exfalso; omega
              · exfalso; omega
              · exfalso; omega
              · exfalso; omega
              · exact ⟨q0.2.1, CP.of3 hxy F1 (by omega) q0.2.2.2 q0.2.2.1 hT2 (hst.gr hxy F1) (hke.gr hxy F1 hst x3 hkp.2) (htk.gr hxy F1) hro hpa⟩
            · have hB := hB0.kq m1e m1s
              refine ((m_task hB hok hta.2.1 hta.1 r11 ⟨hInv.2.1.2.1, by have := hInv.2.1.2.2; omega⟩ ha hi).deeper (Nat.le_of_ble_eq_true rfl)).mono (fun v h2 q0 => ?_)
              rcases q0 with ⟨q1, -⟩ | ⟨-, q1, q2, q3⟩
              · exact absurd cd q1
              · rw [er] at q1 q2
                exact ⟨q1, ⟨f14, f16, was, pln, r14, q2⟩, q3⟩
            · obtain ⟨⟨s1, s2⟩, ⟨s3, s4⟩, s5, s6⟩ := hSO.up
              exact ⟨⟨x1.up (by omega) (by omega), x2⟩, ⟨s3, fun e => ⟨(s4 e).1.pool (fun z hz => x3 z (by have := (s4 e).2; omega)), Int.le_trans (s4 e).2 x4⟩⟩, ⟨⟨by omega, by omega⟩, hta.2.1, fun j hj => by omega⟩, s6⟩
          · have rE : InR E1 := ⟨by omega, by omega⟩
            have er : taskF m pool ft q i zt.toNat f11 f12 = (-100 - E1, m, pool) := by unfold taskF; rw [ez, if_neg (by rw [u1]; decide), ← u2]
            refine TWO.of2 (dm := 1000) (z := .int (J (-100 - E1))) (f4' := f4) (m' := m) (kpm' := kpm) (pool' := pool) (zt' := 0) (ft' := ft) (f18' := f18) (pap' := pap) (rwd' := rwd) (rw' := rw) (Nat.le_of_ble_eq_true rfl) (Nat.le_of_ble_eq_true rfl) ⟨_, rfl⟩ hSZ hMH ((kg_taskF 17 hK hc hC ha hi cT T10 cK K60 cZ Z150 rE (fun _ => R1) (fun _ => hK1)).mono (fun v h' q0 => ?_)) (fun h1 m1e m1s => ?_) ?_
            · rw [eq] at q0
              rcases q0 with q0 | q0 | q0 | q0 | q0
              · exfalso; omega
              · exfalso; omega
              · exfalso; omega
              · exfalso; omega
              · exact ⟨q0.2.1, CP.of3 hxy F1 (by omega) q0.2.2.2 q0.2.2.1 hT hst1 hke1 htk1 hro hpa⟩
            · have hB := hB0.kq m1e m1s
              refine ((m_task hB hok hta.2.1 hta.1 r11 ⟨hInv.2.1.2.1, by have := hInv.2.1.2.2; omega⟩ ha hi).deeper (Nat.le_of_ble_eq_true rfl)).mono (fun v h2 q0 => ?_)
              rcases q0 with ⟨q1, -⟩ | ⟨-, q1, q2, q3⟩
              · exact absurd cd q1
              · rw [er] at q1 q2
                exact ⟨q1, ⟨f14, f16, was, pln, r14, q2⟩, q3⟩
            · exact hSO.tape ⟨⟨by omega, by omega⟩, hta.2.1, fun j hj => by omega⟩
        · have cd : ¬ taskDo m q i := fun z => w7 ⟨by have := z.2.2.2.1; omega, by have := z.2.2.2.2; omega⟩
          have ev : taskN m q i = -4 := by unfold taskN; rw [if_pos w, if_pos w6, if_pos (hop.mpr w2)]
          refine TWO.ask (z := .int (J (-4))) (Nat.le_of_ble_eq_true rfl) (Nat.le_of_ble_eq_true rfl) ⟨_, rfl⟩ hCH hMH hSO hSZ ((kg_taskF 17 (h1 := h) (p1 := 0) (e1 := 0) (o1 := 0) hK hc hC ha hi cT T10 cK K60 cZ Z150 (by decide) (fun z => by exact absurd ⟨z.2.2.1, z.2.2.2⟩ w7) (fun z => by exact absurd ⟨z.2.2.1, z.2.2.2⟩ w7)).mono (fun v h' q0 => ?_)) (fun h1 f8 f9 f10 f11 f12 f13 f14 f16 was pln s r14 r11 hB => (m_task hB hok hta.2.1 hta.1 r11 ⟨hInv.2.1.2.1, by have := hInv.2.1.2.2; omega⟩ ha hi).mono (fun v h2 q0 => ?_))
          · rw [eq] at q0
            rcases q0 with q0 | q0 | q0 | q0 | q0
            · exfalso; omega
            · exfalso; omega
            · exfalso; omega
            · first | exact ⟨q0.2.1, q0.2.2⟩ | exact ⟨q0.2.2.1, q0.2.2.2⟩
            · exfalso; omega
          · rcases q0 with ⟨-, q1, q2⟩ | ⟨q1, -⟩
            · rw [ev] at q1; exact ⟨q1, q2⟩
            · exact absurd q1 cd
      · have t1 : ¬ c (304 + 3 * q) = 0 := fun z => w2 (s0.mp z)
        have cd : ¬ taskDo m q i := fun z => w2 (hop.mp z.2.2.1)
        have ev : taskN m q i = -3 := by unfold taskN; rw [if_pos w, if_pos w6, if_neg (fun z => w2 (hop.mp z))]
        refine TWO.ask (z := .int (J (-3))) (Nat.le_of_ble_eq_true rfl) (Nat.le_of_ble_eq_true rfl) ⟨_, rfl⟩ hCH hMH hSO hSZ ((kg_taskF 17 (h1 := h) (p1 := 0) (e1 := 0) (o1 := 0) hK hc hC ha hi cT T10 cK K60 cZ Z150 (by decide) (fun z => by exact absurd z.2.1 (by rw [eq]; exact t1)) (fun z => by exact absurd z.2.1 (by rw [eq]; exact t1))).mono (fun v h' q0 => ?_)) (fun h1 f8 f9 f10 f11 f12 f13 f14 f16 was pln s r14 r11 hB => (m_task hB hok hta.2.1 hta.1 r11 ⟨hInv.2.1.2.1, by have := hInv.2.1.2.2; omega⟩ ha hi).mono (fun v h2 q0 => ?_))
        · rw [eq] at q0
          rcases q0 with q0 | q0 | q0 | q0 | q0
          · exfalso; omega
          · exfalso; omega
          · first | exact ⟨q0.2.1, q0.2.2⟩ | exact ⟨q0.2.2.1, q0.2.2.2⟩
          · exfalso; omega
          · exfalso; omega
        · rcases q0 with ⟨-, q1, q2⟩ | ⟨q1, -⟩
          · rw [ev] at q1; exact ⟨q1, q2⟩
          · exact absurd q1 cd
    · have cd : ¬ taskDo m q i := fun z => w6 z.2.1
      have ev : taskN m q i = -2 := by unfold taskN; rw [if_pos w, if_neg w6]
      refine TWO.ask (z := .int (J (-2))) (Nat.le_of_ble_eq_true rfl) (Nat.le_of_ble_eq_true rfl) ⟨_, rfl⟩ hCH hMH hSO hSZ ((kg_taskF 17 (h1 := h) (p1 := 0) (e1 := 0) (o1 := 0) hK hc hC ha hi cT T10 cK K60 cZ Z150 (by decide) (fun z => by exact absurd z.1.2 w6) (fun z => by exact absurd z.1.2 w6)).mono (fun v h' q0 => ?_)) (fun h1 f8 f9 f10 f11 f12 f13 f14 f16 was pln s r14 r11 hB => (m_task hB hok hta.2.1 hta.1 r11 ⟨hInv.2.1.2.1, by have := hInv.2.1.2.2; omega⟩ ha hi).mono (fun v h2 q0 => ?_))
      · rw [eq] at q0
        rcases q0 with q0 | q0 | q0 | q0 | q0
        · exfalso; omega
        · first | exact ⟨q0.2.1, q0.2.2⟩ | exact ⟨q0.2.2.1, q0.2.2.2⟩
        · exfalso; omega
        · exfalso; omega
        · exfalso; omega
      · rcases q0 with ⟨-, q1, q2⟩ | ⟨q1, -⟩
        · rw [ev] at q1; exact ⟨q1, q2⟩
        · exact absurd q1 cd
  · have cd : ¬ taskDo m a i := fun z => w z.1
    have ev : taskN m a i = -1 := by unfold taskN; rw [if_neg w]
    refine TWO.ask (z := .int (J (-1))) (Nat.le_of_ble_eq_true rfl) (Nat.le_of_ble_eq_true rfl) ⟨_, rfl⟩ hCH hMH hSO hSZ ((kg_taskF 17 (h1 := h) (p1 := 0) (e1 := 0) (o1 := 0) hK hc hC ha hi cT T10 cK K60 cZ Z150 (by decide) (fun z => by exact absurd z.1.1 (by omega)) (fun z => by exact absurd z.1.1 (by omega))).mono (fun v h' q0 => ?_)) (fun h1 f8 f9 f10 f11 f12 f13 f14 f16 was pln s r14 r11 hB => (m_task hB hok hta.2.1 hta.1 r11 ⟨hInv.2.1.2.1, by have := hInv.2.1.2.2; omega⟩ ha hi).mono (fun v h2 q0 => ?_))
    · rcases q0 with q0 | q0 | q0 | q0 | q0
      · first | exact ⟨q0.2.1, q0.2.2⟩ | exact ⟨q0.2.2.1, q0.2.2.2⟩
      · exfalso; omega
      · exfalso; omega
      · exfalso; omega
      · exfalso; omega
    · rcases q0 with ⟨-, q1, q2⟩ | ⟨q1, -⟩
      · rw [ev] at q1; exact ⟨q1, q2⟩
      · exact absurd q1 cd

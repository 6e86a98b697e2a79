section mg_h0
/-! ===== take, task on both ===== -/
/-- what lies in the heap of the steps that were read, and those that were there -/
def grS (S : Nat → Option mO) (h hh : mH) : Nat → Option mO := fun a => if h.2.1 ≤ a ∧ a < hh.2.1 then hGet hh a else S a
section H0
variable {sg : Bool} {x y n : Nat} {h hh h1 h' : mH} {S : Nat → Option mO} {f4 : Int} {m kpm pool pool' : Nat → Int}
theorem grS_old (k : stR y h S) {a : Nat} {o : mO} (e : S a = some o) : grS S h hh a = some o := by
  have := (k a o e).2.2
  unfold grS
  rw [if_neg (by omega)]
  exact e
theorem grS_new {a : Nat} (h1 : h.2.1 ≤ a) (h2 : a < hh.2.1) : grS S h hh a = hGet hh a := by unfold grS; rw [if_pos ⟨h1, h2⟩]
theorem grS_none {a : Nat} (h1 : a < h.2.1) (e : S a = none) : grS S h hh a = none := by unfold grS; rw [if_neg (by omega)]; exact e
theorem stR.gr (k : stR y h S) (hxy : x + 196 ≤ y ∧ y + 10 ≤ h.2.1) (F : FrR (kA x 1) h hh) : stR y hh (grS S h hh) := by
  intro a o e
  have f2 := F.2.1
  unfold grS at e
  split at e
  · rename_i c
    exact ⟨e, by omega, c.2⟩
  · obtain ⟨k1, k2, k3⟩ := k a o e
    exact ⟨(F.2.2.2 a k3 (by unfold dBlk kA; omega)).trans k1, k2, by omega⟩
theorem keR.gr {kp : Option Nat} {B T : Int} (k : keR y h S kp f4 kpm pool) (hxy : x + 196 ≤ y ∧ y + 10 ≤ h.2.1) (F : FrR (kA x 1) h hh) (hst : stR y h S) (hp : ∀ q : Nat, (q : Int) < m 8 → pool' q = pool q) (hA : f4 = 1 → All kpm pool B T ∧ kpm 8 ≤ m 8) : keR y hh (grS S h hh) kp f4 kpm pool' := by
  have f2 := F.2.1
  rcases k with k | ⟨w, c, C, nm, g, ⟨k1, k2⟩, ⟨k3, k4⟩, k5, k6, k7⟩
  · exact Or.inl k
  · obtain ⟨a1, a2⟩ := hA k2
    exact Or.inr ⟨w, c, C, nm, g, ⟨k1, k2⟩, ⟨k3, by omega⟩, fun a ha => grS_none (by unfold wBlk at ha; omega) (k5 a ha), k6.keep2 F.1 (fun b hb => F.2.2.2 b (by unfold wBlk at hb; omega) (by unfold wBlk at hb; unfold dBlk kA; omega)), ctr_grow k7 a1.1.1 a1.2.1 (fun a o e => grS_old hst e) (fun q hq => hp q (by omega))⟩
theorem tkR.gr {kp tk : Option Nat} (k : tkR y h S kp tk) (hxy : x + 196 ≤ y ∧ y + 10 ≤ h.2.1) (F : FrR (kA x 1) h hh) : tkR y hh (grS S h hh) kp tk := by
  have f2 := F.2.1
  rcases k with k | ⟨r, b, f, c, C, nm, g, k1, ⟨k3, k4⟩, k5, k6, k7, k8⟩
  · exact Or.inl k
  · exact Or.inr ⟨r, b, f, c, C, nm, g, k1, ⟨k3, by omega⟩, fun a ha => grS_none (by unfold rBlk at ha; omega) (k5 a ha), k6, k7.keep2 F.1 (fun b hb => F.2.2.2 b (by unfold rBlk at hb; omega) (by unfold rBlk at hb; unfold dBlk kA; omega)), k8⟩
/-- the text that was read lies in the pool -/
theorem stL_pool {ft : Nat → Int} {zt : Int} {len P d N b : Nat} {it : Bool} (hz : zt = (len : Int)) (hd : d ≤ len) (hb : h.2.1 ≤ b) (k : stL (hGet hh) (clip ft zt) N it 0 b hh.2.1 d len) : stL (grS S h hh) (pooledP pool ft P d len) N it 0 b hh.2.1 P (P + (len - d)) := by
  have k1 := stL_c N N (Nat.le_refl _) it 0 b hh.2.1 hh.2.1 d len (Nat.le_refl _) (S' := grS S h hh) (fun q h1 h2 => grS_new (by omega) h2) k
  have k2 := stL_2 (sr := clip ft zt) (sr' := pooledP pool ft P d len) (d := d) (d' := P) N it 0 b hh.2.1 0 (len - d) (fun j _ hj => by
    have y := pooledP_cl (pool := pool) (tape := ft) (p := P) (a := d) (b := len) (i := j) hj hd
    rw [hz, show j + P = P + j by omega, show j + d = d + j by omega]
    exact y) (by rw [Nat.zero_add, show len - d + d = len by omega]; exact k1)
  rw [Nat.zero_add, show len - d + P = P + (len - d) by omega] at k2
  exact k2
end H0

set_option maxHeartbeats 4000000 in
set_option maxRecDepth 100000 in
theorem two_take {sg : Bool} {G : mG} {l : Launch} (hG : G.2.map Prod.snd = mTy) {x y n0 : Nat} {h : mH} (hn0 : n0 ≤ 600) (hI : RI sg x y n0 h) {a : Int} (ha : InR a) : TWO sg G l x y n0 false mX10_take mX11_take [.int (J a)] h := by
  obtain ⟨f4, m, kpm, pool, zt, ft, f18, pap, rwd, rw, hCH, hMH, hSO, hSZ⟩ := hI
  obtain ⟨S, kp, tk, zr, fr, p, e, o, zs, fs, b, fa, c, C, nm, g, hK, ⟨hT, hst, hke, htk⟩, hro, hpa, hxy⟩ := id hCH
  obtain ⟨⟨hA, hPo⟩, hkp, hta, h18, hrw⟩ := id hSO
  obtain ⟨N, K, T, Z, F, hX⟩ := fx_of hT hA
  obtain ⟨⟨mN, cN, N90⟩, ⟨mK, cK, K1, K60⟩, ⟨mT, cT, T10⟩, ⟨cZ, Z150⟩, ⟨⟨c11, c12, c13⟩, F90, c4⟩, ⟨hO, hpR, hpO, hoO⟩, ⟨c8, c9, L0, L90⟩, ⟨hc, hC⟩, hst2, htp⟩ := id hX
  obtain ⟨⟨hInv, hsc, hnc, hns⟩, hTk, hm7, hm8⟩ := id hA
  have hok := hInv.1
  have hM := hok.1
  have hCR := hT.1
  have hcT := hCR.2.1
  have hcS := hCR.2.2.1
  have hcK := hCR.2.2.2.1
  have hcL := hCR.2.2.2.2.1
  have hst3 : ∀ t : Nat, (t : Int) < m 1 → 0 ≤ m (258 + 14 * t) ∧ m (258 + 14 * t) ≤ 2 := fun t ht => (hst2 t ht).1
  obtain ⟨f14, f16, was, pln, r14, f8, f9, f10, f11, f12, f13, s, r11, hB0⟩ := id hMH
  have ez : ((zt.toNat : Nat) : Int) = zt := by omega
  obtain ⟨v1, hh, ⟨F1, sz, P1, E1, O1, rP, rO, hD1, hQ⟩, R1⟩ := (rd_thing (G := G) (l := l) hK.d hta.1 hta.2.1 (by unfold kA; omega) f11 f12).ex
  have hK1 := hK.ofF (by omega) F1 hD1
  have hst1 := hst.kp F1.Old (fun b hb => Or.inl (by unfold kBlk at hb; omega))
  have hke1 := hke.kp F1.Old (fun b w e hb => by have := hke.lo e; unfold wBlk at hb; unfold kBlk; omega)
  have htk1 := htk.kp F1.Old (fun b r e hb => by have := htk.lo e; unfold rBlk at hb; unfold kBlk; omega)
  by_cases w : 0 ≤ a ∧ a ≤ m 0 - 1
  · skip
    obtain ⟨q, rfl⟩ : ∃ q : Nat, a = q := ⟨a.toNat, by omega⟩
    have e18 : ((18 : Int) + 4 * (q : Int)).toNat = 18 + 4 * q := by omega
    have eq : ((q : Int)).toNat = q := by omega
    have s0 : c (304 + 3 * q) = 0 ↔ m (18 + 4 * q) = 0 := by rw [(hcS q (by omega)).1]; exact swT_0 (hsc.2.2 q (by omega)).1
    have hop : openP m (q : Int) ↔ m (18 + 4 * q) = 0 := ⟨fun z => by have := z.2.2; rwa [e18] at this, fun z => ⟨w.1, w.2, by rw [e18]; exact z⟩⟩
    by_cases w2 : m (18 + 4 * q) = 0
    · have cd : openP m (q : Int) := hop.mpr w2
      have t1 := s0.mpr w2
      rcases hQ with ⟨u1, u2, rfl, u4, u5, inn, u6, u7⟩ | ⟨u1, u2, u3, u4, rfl⟩
      · have rE : InR E1 := by rw [u2]; decide
        obtain ⟨p1, p2, p3, p4⟩ := u5
        have tz : (takeE ft zt f11 f12 : Int) ≤ zt := by rcases u7 with ⟨z, -⟩ | ⟨z, -⟩ <;> omega
        have hl : ∀ j, 0 ≤ j → j < takeE ft zt f11 f12 → isLt (ft j) := fun j h0 hj => by
          have z := p3 j h0 hj
          unfold clip at z
          rw [if_pos (by omega)] at z
          exact z
        have ey : nmY (clip ft zt) 0 (takeE ft zt f11 f12) = nmY ft 0 (takeE ft zt f11 f12) := nmY_c (fun j h0 hj => by unfold clip; rw [if_pos (by omega)])
        rw [ey] at u6
        have n4 : hnL c nm (nmY ft 0 (takeE ft zt f11 f12)) N 0 = hbL m ft 0 (takeE ft zt f11 f12) N 0 := (hb_hn hcT hst3 hl ⟨by omega, by omega⟩ N 0 (by omega)).symm
        have hTx := all_take (f11 := f11) (f12 := f12) (len := zt.toNat) (a := (q : Int)) hA hPo hta.2.1 (by omega) r11 cd (by omega)
        rw [ez] at hTx
        by_cases w3 : m 1 = 90
        · have er : takeF m pool ft q zt.toNat (takeE ft zt f11 f12) (takeR ft zt f11 f12) = (-4, m, pool) := by unfold takeF; rw [ez, if_pos u1, if_pos w3]
          refine TWO.of2 (dm := 1000) (z := .int (J (-4))) (f4' := f4) (m' := m) (kpm' := kpm) (pool' := pool) (zt' := 0) (ft' := ft) (f18' := f18) (pap' := pap) (rwd' := rwd) (rw' := rw) (Nat.le_of_ble_eq_true rfl) (Nat.le_of_ble_eq_true rfl) ⟨_, rfl⟩ hSZ hMH ((kg_takeT 17 hK hc hC ha (s := h.2.1) rE (fun _ => R1) (fun _ => hK1) cN N90 cZ Z150 (fun _ => u6) (by unfold kBlk; omega)).mono (fun v h' q0 => ?_)) (fun h1 m1e m1s => ?_) ?_
          · rw [eq] at q0
            rcases q0 with q0 | q0 | q0 | q0 | q0
            · exfalso; omega
            · exfalso; omega
            · exact ⟨q0.2.2.1, CP.of3 hxy F1 (by omega) q0.2.2.2.2 q0.2.2.2.1 hT hst1 hke1 htk1 hro hpa⟩
            · exfalso; omega
            · exfalso; omega
          · have hB := hB0.kq m1e m1s
            refine ((m_take hB hok hta.2.1 hta.1 r11 ⟨hInv.2.1.2.1, by have := hInv.2.1.2.2; omega⟩ ha).deeper (Nat.le_of_ble_eq_true rfl)).mono (fun v h2 q0 => ?_)
            rcases q0 with ⟨q1, -⟩ | ⟨-, q1, q2, q3⟩
            · exact absurd cd q1
            · rw [er] at q1 q2
              exact ⟨q1, ⟨f14, f16, was, pln, r14, q2⟩, q3⟩
          · exact hSO.tape ⟨⟨by omega, by omega⟩, hta.2.1, fun j hj => by omega⟩
        · by_cases w4 : 0 ≤ hbL m ft 0 (takeE ft zt f11 f12) N 0
          · have er : takeF m pool ft q zt.toNat (takeE ft zt f11 f12) (takeR ft zt f11 f12) = (-3, m, pool) := by unfold takeF; rw [ez, if_pos u1, if_neg w3, show (m 1).toNat = N by omega, if_pos w4]
            rw [← n4] at w4
            refine TWO.of2 (dm := 1000) (z := .int (J (-3))) (f4' := f4) (m' := m) (kpm' := kpm) (pool' := pool) (zt' := 0) (ft' := ft) (f18' := f18) (pap' := pap) (rwd' := rwd) (rw' := rw) (Nat.le_of_ble_eq_true rfl) (Nat.le_of_ble_eq_true rfl) ⟨_, rfl⟩ hSZ hMH ((kg_takeT 17 hK hc hC ha (s := h.2.1) rE (fun _ => R1) (fun _ => hK1) cN N90 cZ Z150 (fun _ => u6) (by unfold kBlk; omega)).mono (fun v h' q0 => ?_)) (fun h1 m1e m1s => ?_) ?_
            · rw [eq] at q0
              rcases q0 with q0 | q0 | q0 | q0 | q0
              · exfalso; omega
              · exfalso; omega
              · exfalso; omega
              · exact ⟨q0.2.2.1, CP.of3 hxy F1 (by omega) q0.2.2.2.2 q0.2.2.2.1 hT hst1 hke1 htk1 hro hpa⟩
              · exfalso; omega
            · have hB := hB0.kq m1e m1s
              refine ((m_take hB hok hta.2.1 hta.1 r11 ⟨hInv.2.1.2.1, by have := hInv.2.1.2.2; omega⟩ ha).deeper (Nat.le_of_ble_eq_true rfl)).mono (fun v h2 q0 => ?_)
              rcases q0 with ⟨q1, -⟩ | ⟨-, q1, q2, q3⟩
              · exact absurd cd q1
              · rw [er] at q1 q2
                exact ⟨q1, ⟨f14, f16, was, pln, r14, q2⟩, q3⟩
            · exact hSO.tape ⟨⟨by omega, by omega⟩, hta.2.1, fun j hj => by omega⟩
          · have w5 := w4
            rw [← n4] at w5
            rcases u7 with ⟨t3, rfl⟩ | ⟨t3, t4, b2, NN, rfl, t5, t6, t7⟩
            · have er : takeF m pool ft q zt.toNat (takeE ft zt f11 f12) (takeR ft zt f11 f12) = (m 1, takesM m ft N q 0 (takeE ft zt f11 f12) 0 0, pool) := by unfold takeF; rw [ez, if_pos u1, if_neg w3, show (m 1).toNat = N by omega, if_neg w4, if_pos (by omega)]
              rw [er] at hTx
              obtain ⟨x1, x2, x3, x4⟩ := hTx
              dsimp only at x1 x4
              have hT2 := ctr_take hT hTk hok (rc := ft) (o := (q : Int)) (inn := none) (P := 0) (E := 0) (fr := 0) (to := takeE ft zt f11 f12) mN (by omega) ⟨by omega, by omega⟩ (by omega) hl ⟨by omega, by omega⟩ (Or.inl ⟨rfl, rfl⟩) cZ
              refine TWO.of2 (dm := 1000) (z := .int (J ((N : Int)))) (f4' := f4) (m' := takesM m ft N q 0 (takeE ft zt f11 f12) 0 0) (kpm' := kpm) (pool' := pool) (zt' := 0) (ft' := ft) (f18' := f18) (pap' := pap) (rwd' := rwd) (rw' := rw) (Nat.le_of_ble_eq_true rfl) (Nat.le_of_ble_eq_true rfl) ⟨_, rfl⟩ hSZ hMH ((kg_takeT 17 hK hc hC ha (s := h.2.1) rE (fun _ => R1) (fun _ => hK1) cN N90 cZ Z150 (fun _ => u6) (by unfold kBlk; omega)).mono (fun v h' q0 => ?_)) (fun h1 m1e m1s => ?_) ?_
              · rw [eq] at q0
                rcases q0 with q0 | q0 | q0 | q0 | q0
                · exfalso; omega
                · exfalso; omega
                · exfalso; omega
                · exfalso; omega
                · exact ⟨q0.2.2.1, CP.of3 hxy F1 (by omega) q0.2.2.2.2 q0.2.2.2.1 hT2 hst1 hke1 htk1 hro hpa⟩
              · have hB := hB0.kq m1e m1s
                refine ((m_take hB hok hta.2.1 hta.1 r11 ⟨hInv.2.1.2.1, by have := hInv.2.1.2.2; omega⟩ ha).deeper (Nat.le_of_ble_eq_true rfl)).mono (fun v h2 q0 => ?_)
                rcases q0 with ⟨q1, -⟩ | ⟨-, q1, q2, q3⟩
                · exact absurd cd q1
                · rw [er, mN] at q1 q2
                  exact ⟨q1, ⟨f14, f16, was, pln, r14, q2⟩, q3⟩
              · obtain ⟨⟨s1, s2⟩, ⟨s3, s4⟩, s5, s6⟩ := hSO.up
                exact ⟨⟨x1.up (by omega) (by omega), s2⟩, ⟨s3, fun e => ⟨(s4 e).1, Int.le_trans (s4 e).2 x4⟩⟩, ⟨⟨by omega, by omega⟩, hta.2.1, fun j hj => by omega⟩, s6⟩
            · obtain ⟨P, hP⟩ : ∃ P : Nat, m 8 = P := ⟨(m 8).toNat, by have := hInv.2.1.2.1; omega⟩
              have er : takeF m pool ft q zt.toNat (takeE ft zt f11 f12) (takeR ft zt f11 f12) = (m 1, takesM (updI m 8 (m 8 + (zt.toNat - (takeE ft zt f11 f12 + 1) : Nat) + 1)) ft N q 0 (takeE ft zt f11 f12) (P : Int) ((P + (zt.toNat - (takeE ft zt f11 f12 + 1)) : Nat) : Int), pooledP pool ft P (takeE ft zt f11 f12 + 1) zt.toNat) := by
                unfold takeF
                rw [ez, if_pos u1, if_neg w3, show (m 1).toNat = N by omega, if_neg w4, if_neg (by omega), show (m 8).toNat = P by omega, show m 8 + zt - (takeE ft zt f11 f12 : Int) - 1 = ((P + (zt.toNat - (takeE ft zt f11 f12 + 1)) : Nat) : Int) by omega, hP]
              rw [er] at hTx
              obtain ⟨x1, x2, x3, x4⟩ := hTx
              dsimp only at x1 x2 x3 x4
              have hT1 := ctr_grow hT hInv hTk (S' := grS S h hh) (fun a o e => grS_old hst e) x3
              have hA1 := hA.pool x3
              have hG1 := hA.grow (b := m 8 + (zt.toNat - (takeE ft zt f11 f12 + 1) : Nat) + 1) (pool' := pooledP pool ft P (takeE ft zt f11 f12 + 1) zt.toNat) ⟨by omega, by have := hA.2.2.2; omega⟩ x3
              have hT3 := ctr_m8 hT1 hA1.2.1 hok (v := m 8 + (zt.toNat - (takeE ft zt f11 f12 + 1) : Nat) + 1)
              have hT2 := ctr_take hT3 hG1.2 hG1.1.1.1 (rc := ft) (o := (q : Int)) (inn := some b2) (P := P) (E := P + (zt.toNat - (takeE ft zt f11 f12 + 1))) (fr := 0) (to := takeE ft zt f11 f12) (N := N) ((updI_n (by omega)).trans mN) (by omega) ⟨by omega, by omega⟩ (by omega) hl ⟨by omega, by omega⟩ (Or.inr ⟨b2, hh.2.1, NN, rfl, stL_pool ez.symm (by omega) (by omega) t7⟩) cZ
              refine TWO.of2 (dm := 1000) (z := .int (J ((N : Int)))) (f4' := f4) (m' := takesM (updI m 8 (m 8 + (zt.toNat - (takeE ft zt f11 f12 + 1) : Nat) + 1)) ft N q 0 (takeE ft zt f11 f12) (P : Int) ((P + (zt.toNat - (takeE ft zt f11 f12 + 1)) : Nat) : Int)) (kpm' := kpm) (pool' := pooledP pool ft P (takeE ft zt f11 f12 + 1) zt.toNat) (zt' := 0) (ft' := ft) (f18' := f18) (pap' := pap) (rwd' := rwd) (rw' := rw) (Nat.le_of_ble_eq_true rfl) (Nat.le_of_ble_eq_true rfl) ⟨_, rfl⟩ hSZ hMH ((kg_takeT 17 hK hc hC ha (s := h.2.1) rE (fun _ => R1) (fun _ => hK1) cN N90 cZ Z150 (fun _ => u6) (by unfold kBlk; omega)).mono (fun v h' q0 => ?_)) (fun h1 m1e m1s => ?_) ?_
              · rw [eq] at q0
                rcases q0 with q0 | q0 | q0 | q0 | q0
                · exfalso; omega
                · exfalso; omega
                · exfalso; omega
                · exfalso; omega
                · exact ⟨q0.2.2.1, CP.of3 hxy F1 (by omega) q0.2.2.2.2 q0.2.2.2.1 hT2 (hst.gr hxy F1) (hke.gr hxy F1 hst x3 hkp.2) (htk.gr hxy F1) hro hpa⟩
              · have hB := hB0.kq m1e m1s
                refine ((m_take hB hok hta.2.1 hta.1 r11 ⟨hInv.2.1.2.1, by have := hInv.2.1.2.2; omega⟩ ha).deeper (Nat.le_of_ble_eq_true rfl)).mono (fun v h2 q0 => ?_)
                rcases q0 with ⟨q1, -⟩ | ⟨-, q1, q2, q3⟩
                · exact absurd cd q1
                · rw [er, mN] at q1 q2
                  exact ⟨q1, ⟨f14, f16, was, pln, r14, q2⟩, q3⟩
              · obtain ⟨⟨s1, s2⟩, ⟨s3, s4⟩, s5, s6⟩ := hSO.up
                exact ⟨⟨x1.up (by omega) (by omega), x2⟩, ⟨s3, fun e => ⟨(s4 e).1.pool (fun z hz => x3 z (by have := (s4 e).2; omega)), Int.le_trans (s4 e).2 x4⟩⟩, ⟨⟨by omega, by omega⟩, hta.2.1, fun j hj => by omega⟩, s6⟩
      · have rE : InR E1 := ⟨by omega, by omega⟩
        have er : takeF m pool ft q zt.toNat (takeE ft zt f11 f12) (takeR ft zt f11 f12) = (-100 - E1, m, pool) := by unfold takeF; rw [ez, if_neg (by rw [u1]; decide), ← u2]
        refine TWO.of2 (dm := 1000) (z := .int (J (-100 - E1))) (f4' := f4) (m' := m) (kpm' := kpm) (pool' := pool) (zt' := 0) (ft' := ft) (f18' := f18) (pap' := pap) (rwd' := rwd) (rw' := rw) (Nat.le_of_ble_eq_true rfl) (Nat.le_of_ble_eq_true rfl) ⟨_, rfl⟩ hSZ hMH ((kg_takeF 17 hK hc hC ha rE (fun _ => R1) (fun _ => hK1)).mono (fun v h' q0 => ?_)) (fun h1 m1e m1s => ?_) ?_
        · rw [eq] at q0
          rcases q0 with q0 | q0 | q0
          · exfalso; omega
          · exfalso; omega
          · exact ⟨q0.2.1, CP.of3 hxy F1 (by omega) q0.2.2.2 q0.2.2.1 hT hst1 hke1 htk1 hro hpa⟩
        · have hB := hB0.kq m1e m1s
          refine ((m_take hB hok hta.2.1 hta.1 r11 ⟨hInv.2.1.2.1, by have := hInv.2.1.2.2; omega⟩ ha).deeper (Nat.le_of_ble_eq_true rfl)).mono (fun v h2 q0 => ?_)
          rcases q0 with ⟨q1, -⟩ | ⟨-, q1, q2, q3⟩
          · exact absurd cd q1
          · rw [er] at q1 q2
            exact ⟨q1, ⟨f14, f16, was, pln, r14, q2⟩, q3⟩
        · exact hSO.tape ⟨⟨by omega, by omega⟩, hta.2.1, fun j hj => by omega⟩
    · have cd : ¬ openP m (q : Int) := fun z => w2 (hop.mp z)
      have t1 : ¬ c (304 + 3 * q) = 0 := fun z => w2 (s0.mp z)
      have ev : openN m q = -3 := by unfold openN; rw [if_pos w]
      refine TWO.ask (z := .int (J (-3))) (Nat.le_of_ble_eq_true rfl) (Nat.le_of_ble_eq_true rfl) ⟨_, rfl⟩ hCH hMH hSO hSZ ((kg_takeF 17 (h1 := h) (p1 := 0) (e1 := 0) (o1 := 0) hK hc hC ha (by decide) (fun z => absurd z.2 (by rw [eq]; exact t1)) (fun z => absurd z.2 (by rw [eq]; exact t1))).mono (fun v h' q0 => ?_)) (fun h1 f8 f9 f10 f11 f12 f13 f14 f16 was pln s r14 r11 hB => (m_take hB hok hta.2.1 hta.1 r11 ⟨hInv.2.1.2.1, by have := hInv.2.1.2.2; omega⟩ ha).mono (fun v h2 q0 => ?_))
      · rw [eq] at q0
        rcases q0 with q0 | q0 | q0
        · exfalso; omega
        · exact ⟨q0.2.2.1, q0.2.2.2⟩
        · exfalso; omega
      · rcases q0 with ⟨-, q1, q2⟩ | ⟨q1, -⟩
        · rw [ev] at q1; exact ⟨q1, q2⟩
        · exact absurd q1 cd
  · have cd : ¬ openP m a := fun z => w ⟨z.1, z.2.1⟩
    have ev : openN m a = -1 := by unfold openN; rw [if_neg w]
    refine TWO.ask (z := .int (J (-1))) (Nat.le_of_ble_eq_true rfl) (Nat.le_of_ble_eq_true rfl) ⟨_, rfl⟩ hCH hMH hSO hSZ ((kg_takeF 17 (h1 := h) (p1 := 0) (e1 := 0) (o1 := 0) hK hc hC ha (by decide) (fun z => absurd z.1 (by omega)) (fun z => absurd z.1 (by omega))).mono (fun v h' q0 => ?_)) (fun h1 f8 f9 f10 f11 f12 f13 f14 f16 was pln s r14 r11 hB => (m_take hB hok hta.2.1 hta.1 r11 ⟨hInv.2.1.2.1, by have := hInv.2.1.2.2; omega⟩ ha).mono (fun v h2 q0 => ?_))
    · rcases q0 with q0 | q0 | q0
      · exact ⟨q0.2.1, q0.2.2⟩
      · exfalso; omega
      · exfalso; omega
    · rcases q0 with ⟨-, q1, q2⟩ | ⟨q1, -⟩
      · rw [ev] at q1; exact ⟨q1, q2⟩
      · exact absurd q1 cd
set_option maxHeartbeats 4000000 in
set_option maxRecDepth 100000 in
theorem two_task {sg : Bool} {G : mG} {l : Launch} (hG : G.2.map Prod.snd = mTy) {x y n0 : Nat} {h : mH} (hn0 : n0 ≤ 600) (hI : RI sg x y n0 h) {a : Int} (ha : InR a) {i : Int} (hi : InR i) : TWO sg G l x y n0 false mX10_task mX11_task [.int (J a), .int (J i)] h := by
  obtain ⟨f4, m, kpm, pool, zt, ft, f18, pap, rwd, rw, hCH, hMH, hSO, hSZ⟩ := hI
  obtain ⟨S, kp, tk, zr, fr, p, e, o, zs, fs, b, fa, c, C, nm, g, hK, ⟨hT, hst, hke, htk⟩, hro, hpa, hxy⟩ := id hCH
  obtain ⟨⟨hA, hPo⟩, hkp, hta, h18, hrw⟩ := id hSO
  obtain ⟨N, K, T, Z, F, hX⟩ := fx_of hT hA
  obtain ⟨⟨mN, cN, N90⟩, ⟨mK, cK, K1, K60⟩, ⟨mT, cT, T10⟩, ⟨cZ, Z150⟩, ⟨⟨c11, c12, c13⟩, F90, c4⟩, ⟨hO, hpR, hpO, hoO⟩, ⟨c8, c9, L0, L90⟩, ⟨hc, hC⟩, hst2, htp⟩ := id hX
  obtain ⟨⟨hInv, hsc, hnc, hns⟩, hTk, hm7, hm8⟩ := id hA
  have hok := hInv.1
  have hM := hok.1
  have hCR := hT.1
  have hcT := hCR.2.1
  have hcS := hCR.2.2.1
  have hcK := hCR.2.2.2.1
  have hcL := hCR.2.2.2.2.1
  have hst3 : ∀ t : Nat, (t : Int) < m 1 → 0 ≤ m (258 + 14 * t) ∧ m (258 + 14 * t) ≤ 2 := fun t ht => (hst2 t ht).1
  obtain ⟨f14, f16, was, pln, r14, f8, f9, f10, f11, f12, f13, s, r11, hB0⟩ := id hMH
  have ez : ((zt.toNat : Nat) : Int) = zt := by omega
  obtain ⟨v1, hh, ⟨F1, sz, E1, O1, rO, hD1, hQ⟩, R1⟩ := (rd_task (G := G) (l := l) 0 hK.d hta.1 hta.2.1 (by unfold kA; omega) f11 f12).ex
  have hK1 := hK.ofF (by omega) F1 hD1
  have hst1 := hst.kp F1.Old (fun b hb => Or.inl (by unfold kBlk at hb; omega))
  have hke1 := hke.kp F1.Old (fun b w e hb => by have := hke.lo e; unfold wBlk at hb; unfold kBlk; omega)
  have htk1 := htk.kp F1.Old (fun b r e hb => by have := htk.lo e; unfold rBlk at hb; unfold kBlk; omega)
  by_cases w : 0 ≤ a ∧ a ≤ m 0 - 1
  · skip
    obtain ⟨q, rfl⟩ : ∃ q : Nat, a = q := ⟨a.toNat, by omega⟩
    have e18 : ((18 : Int) + 4 * (q : Int)).toNat = 18 + 4 * q := by omega
    have eq : ((q : Int)).toNat = q := by omega
    have s0 : c (304 + 3 * q) = 0 ↔ m (18 + 4 * q) = 0 := by rw [(hcS q (by omega)).1]; exact swT_0 (hsc.2.2 q (by omega)).1
    have hop : openP m (q : Int) ↔ m (18 + 4 * q) = 0 := ⟨fun z => by have := z.2.2; rwa [e18] at this, fun z => ⟨w.1, w.2, by rw [e18]; exact z⟩⟩
    by_cases w6 : -99 ≤ i ∧ i ≤ 99
    · by_cases w2 : m (18 + 4 * q) = 0
      · have t1 := s0.mpr w2
        by_cases w7 : T < 10 ∧ K < 60
        · have cd : taskDo m q i := ⟨w, w6, hop.mpr w2, by omega, by omega⟩
          rcases hQ with ⟨u1, u2, rfl, u4, u5, NN, u6⟩ | ⟨u1, u2, u3, u4, rfl⟩
          · have rE : InR E1 := by rw [u2]; decide
            obtain ⟨P, hP⟩ : ∃ P : Nat, m 8 = P := ⟨(m 8).toNat, by have := hInv.2.1.2.1; omega⟩
            have hTx := all_task (f11 := f11) (f12 := f12) (len := zt.toNat) (a := (q : Int)) hA hPo hta.2.1 (by omega) r11 cd (by omega)
            have er : taskF m pool ft q i zt.toNat f11 f12 = ((T : Int), newTaskM m q i zt.toNat, pooledP pool ft P 0 zt.toNat) := by unfold taskF; rw [ez, if_pos u1, mT, show (m 8).toNat = P by omega]
            rw [er] at hTx
            obtain ⟨x1, x2, x3, x4⟩ := hTx
            dsimp only at x1 x2 x3 x4
            have hT1 := ctr_grow hT hInv hTk (S' := grS S h hh) (fun a o e => grS_old hst e) x3
            have hA1 := hA.pool x3
            have h6 : InR (m 6 + 1) := by
              have := hInv.2.2.2.2.1
              exact ⟨by omega, by omega⟩
            have tx := stL_pool (S := S) (pool := pool) (P := P) ez.symm (Nat.zero_le _) (Nat.le_refl _) u6
            rw [Nat.sub_zero] at tx
            have hT2 := ctr_task hT1 hA1.2.1 hok (by omega) h6 ⟨by omega, by have := hInv.2.1.2.2; omega⟩ mT (by omega) mK (by omega) (a := q) (by omega) w6 hP (by omega) cZ tx
            refine TWO.of2 (dm := 1000) (z := .int (J ((T : Int)))) (f4' := f4) (m' := newTaskM m q i zt.toNat) (kpm' := kpm) (pool' := pooledP pool ft P 0 zt.toNat) (zt' := 0) (ft' := ft) (f18' := f18) (pap' := pap) (rwd' := rwd) (rw' := rw) (Nat.le_of_ble_eq_true rfl) (Nat.le_of_ble_eq_true rfl) ⟨_, rfl⟩ hSZ hMH ((kg_taskT 17 hK hc hC ha hi cT T10 cK K60 cZ Z150 (s := h.2.1) rE (fun _ => R1) (fun _ => hK1)).mono (fun v h' q0 => ?_)) (fun h1 m1e m1s => ?_) ?_
            · rw [eq] at q0
              rcases q0 with q0 | q0 | q0 | q0 | q0
              · exfalso; omega
              · exfalso; omega
              · exfalso; omega
              · exfalso; omega
              · exact ⟨q0.2.1, CP.of3 hxy F1 (by omega) q0.2.2.2 q0.2.2.1 hT2 (hst.gr hxy F1) (hke.gr hxy F1 hst x3 hkp.2) (htk.gr hxy F1) hro hpa⟩
            · have hB := hB0.kq m1e m1s
              refine ((m_task hB hok hta.2.1 hta.1 r11 ⟨hInv.2.1.2.1, by have := hInv.2.1.2.2; omega⟩ ha hi).deeper (Nat.le_of_ble_eq_true rfl)).mono (fun v h2 q0 => ?_)
              rcases q0 with ⟨q1, -⟩ | ⟨-, q1, q2, q3⟩
              · exact absurd cd q1
              · rw [er] at q1 q2
                exact ⟨q1, ⟨f14, f16, was, pln, r14, q2⟩, q3⟩
            · obtain ⟨⟨s1, s2⟩, ⟨s3, s4⟩, s5, s6⟩ := hSO.up
              exact ⟨⟨x1.up (by omega) (by omega), x2⟩, ⟨s3, fun e => ⟨(s4 e).1.pool (fun z hz => x3 z (by have := (s4 e).2; omega)), Int.le_trans (s4 e).2 x4⟩⟩, ⟨⟨by omega, by omega⟩, hta.2.1, fun j hj => by omega⟩, s6⟩
          · have rE : InR E1 := ⟨by omega, by omega⟩
            have er : taskF m pool ft q i zt.toNat f11 f12 = (-100 - E1, m, pool) := by unfold taskF; rw [ez, if_neg (by rw [u1]; decide), ← u2]
            refine TWO.of2 (dm := 1000) (z := .int (J (-100 - E1))) (f4' := f4) (m' := m) (kpm' := kpm) (pool' := pool) (zt' := 0) (ft' := ft) (f18' := f18) (pap' := pap) (rwd' := rwd) (rw' := rw) (Nat.le_of_ble_eq_true rfl) (Nat.le_of_ble_eq_true rfl) ⟨_, rfl⟩ hSZ hMH ((kg_taskF 17 hK hc hC ha hi cT T10 cK K60 cZ Z150 rE (fun _ => R1) (fun _ => hK1)).mono (fun v h' q0 => ?_)) (fun h1 m1e m1s => ?_) ?_
            · rw [eq] at q0
              rcases q0 with q0 | q0 | q0 | q0 | q0
              · exfalso; omega
              · exfalso; omega
              · exfalso; omega
              · exfalso; omega
              · exact ⟨q0.2.1, CP.of3 hxy F1 (by omega) q0.2.2.2 q0.2.2.1 hT hst1 hke1 htk1 hro hpa⟩
            · have hB := hB0.kq m1e m1s
              refine ((m_task hB hok hta.2.1 hta.1 r11 ⟨hInv.2.1.2.1, by have := hInv.2.1.2.2; omega⟩ ha hi).deeper (Nat.le_of_ble_eq_true rfl)).mono (fun v h2 q0 => ?_)
              rcases q0 with ⟨q1, -⟩ | ⟨-, q1, q2, q3⟩
              · exact absurd cd q1
              · rw [er] at q1 q2
                exact ⟨q1, ⟨f14, f16, was, pln, r14, q2⟩, q3⟩
            · exact hSO.tape ⟨⟨by omega, by omega⟩, hta.2.1, fun j hj => by omega⟩
        · have cd : ¬ taskDo m q i := fun z => w7 ⟨by have := z.2.2.2.1; omega, by have := z.2.2.2.2; omega⟩
          have ev : taskN m q i = -4 := by unfold taskN; rw [if_pos w, if_pos w6, if_pos (hop.mpr w2)]
          refine TWO.ask (z := .int (J (-4))) (Nat.le_of_ble_eq_true rfl) (Nat.le_of_ble_eq_true rfl) ⟨_, rfl⟩ hCH hMH hSO hSZ ((kg_taskF 17 (h1 := h) (p1 := 0) (e1 := 0) (o1 := 0) hK hc hC ha hi cT T10 cK K60 cZ Z150 (by decide) (fun z => by exact absurd ⟨z.2.2.1, z.2.2.2⟩ w7) (fun z => by exact absurd ⟨z.2.2.1, z.2.2.2⟩ w7)).mono (fun v h' q0 => ?_)) (fun h1 f8 f9 f10 f11 f12 f13 f14 f16 was pln s r14 r11 hB => (m_task hB hok hta.2.1 hta.1 r11 ⟨hInv.2.1.2.1, by have := hInv.2.1.2.2; omega⟩ ha hi).mono (fun v h2 q0 => ?_))
          · rw [eq] at q0
            rcases q0 with q0 | q0 | q0 | q0 | q0
            · exfalso; omega
            · exfalso; omega
            · exfalso; omega
            · first | exact ⟨q0.2.1, q0.2.2⟩ | exact ⟨q0.2.2.1, q0.2.2.2⟩
            · exfalso; omega
          · rcases q0 with ⟨-, q1, q2⟩ | ⟨q1, -⟩
            · rw [ev] at q1; exact ⟨q1, q2⟩
            · exact absurd q1 cd
      · have t1 : ¬ c (304 + 3 * q) = 0 := fun z => w2 (s0.mp z)
        have cd : ¬ taskDo m q i := fun z => w2 (hop.mp z.2.2.1)
        have ev : taskN m q i = -3 := by unfold taskN; rw [if_pos w, if_pos w6, if_neg (fun z => w2 (hop.mp z))]
        refine TWO.ask (z := .int (J (-3))) (Nat.le_of_ble_eq_true rfl) (Nat.le_of_ble_eq_true rfl) ⟨_, rfl⟩ hCH hMH hSO hSZ ((kg_taskF 17 (h1 := h) (p1 := 0) (e1 := 0) (o1 := 0) hK hc hC ha hi cT T10 cK K60 cZ Z150 (by decide) (fun z => by exact absurd z.2.1 (by rw [eq]; exact t1)) (fun z => by exact absurd z.2.1 (by rw [eq]; exact t1))).mono (fun v h' q0 => ?_)) (fun h1 f8 f9 f10 f11 f12 f13 f14 f16 was pln s r14 r11 hB => (m_task hB hok hta.2.1 hta.1 r11 ⟨hInv.2.1.2.1, by have := hInv.2.1.2.2; omega⟩ ha hi).mono (fun v h2 q0 => ?_))
        · rw [eq] at q0
          rcases q0 with q0 | q0 | q0 | q0 | q0
          · exfalso; omega
          · exfalso; omega
          · first | exact ⟨q0.2.1, q0.2.2⟩ | exact ⟨q0.2.2.1, q0.2.2.2⟩
          · exfalso; omega
          · exfalso; omega
        · rcases q0 with ⟨-, q1, q2⟩ | ⟨q1, -⟩
          · rw [ev] at q1; exact ⟨q1, q2⟩
          · exact absurd q1 cd
    · have cd : ¬ taskDo m q i := fun z => w6 z.2.1
      have ev : taskN m q i = -2 := by unfold taskN; rw [if_pos w, if_neg w6]
      refine TWO.ask (z := .int (J (-2))) (Nat.le_of_ble_eq_true rfl) (Nat.le_of_ble_eq_true rfl) ⟨_, rfl⟩ hCH hMH hSO hSZ ((kg_taskF 17 (h1 := h) (p1 := 0) (e1 := 0) (o1 := 0) hK hc hC ha hi cT T10 cK K60 cZ Z150 (by decide) (fun z => by exact absurd z.1.2 w6) (fun z => by exact absurd z.1.2 w6)).mono (fun v h' q0 => ?_)) (fun h1 f8 f9 f10 f11 f12 f13 f14 f16 was pln s r14 r11 hB => (m_task hB hok hta.2.1 hta.1 r11 ⟨hInv.2.1.2.1, by have := hInv.2.1.2.2; omega⟩ ha hi).mono (fun v h2 q0 => ?_))
      · rw [eq] at q0
        rcases q0 with q0 | q0 | q0 | q0 | q0
        · exfalso; omega
        · first | exact ⟨q0.2.1, q0.2.2⟩ | exact ⟨q0.2.2.1, q0.2.2.2⟩
        · exfalso; omega
        · exfalso; omega
        · exfalso; omega
      · rcases q0 with ⟨-, q1, q2⟩ | ⟨q1, -⟩
        · rw [ev] at q1; exact ⟨q1, q2⟩
        · exact absurd q1 cd
  · have cd : ¬ taskDo m a i := fun z => w z.1
    have ev : taskN m a i = -1 := by unfold taskN; rw [if_neg w]
    refine TWO.ask (z := .int (J (-1))) (Nat.le_of_ble_eq_true rfl) (Nat.le_of_ble_eq_true rfl) ⟨_, rfl⟩ hCH hMH hSO hSZ ((kg_taskF 17 (h1 := h) (p1 := 0) (e1 := 0) (o1 := 0) hK hc hC ha hi cT T10 cK K60 cZ Z150 (by decide) (fun z => by exact absurd z.1.1 (by omega)) (fun z => by exact absurd z.1.1 (by omega))).mono (fun v h' q0 => ?_)) (fun h1 f8 f9 f10 f11 f12 f13 f14 f16 was pln s r14 r11 hB => (m_task hB hok hta.2.1 hta.1 r11 ⟨hInv.2.1.2.1, by have := hInv.2.1.2.2; omega⟩ ha hi).mono (fun v h2 q0 => ?_))
    · rcases q0 with q0 | q0 | q0 | q0 | q0
      · first | exact ⟨q0.2.1, q0.2.2⟩ | exact ⟨q0.2.2.1, q0.2.2.2⟩
      · exfalso; omega
      · exfalso; omega
      · exfalso; omega
      · exfalso; omega
    · rcases q0 with ⟨-, q1, q2⟩ | ⟨q1, -⟩
      · rw [ev] at q1; exact ⟨q1, q2⟩
      · exact absurd q1 cd
end mg_h0
section mg_h1
/-! ===== would, trial on both ===== -/
theorem both_ticks3 {G : mG} {l : Launch} {r : Nat} {pool : Nat → Int} {S : Nat → Option mO} {h0 : mH} (hS : ∀ a o, S a = some o → hGet h0 a = some o) (hSr : ∀ a, ¬ S a = none → ¬ rBlk r a) (hPo : poolOk pool) {m : Nat → Int} {B T : Int} {n : Nat} (h : All m pool B T) (hn : n ≤ 100) (hB : B ≤ 1000000000) (hT : T ≤ 900000000) :
    ∃ (k : Nat) (m' : Nat → Int), ticksR pool n m k m' ∧ k ≤ n ∧ All m' pool (B + 12000) (T + 100) ∧ m' 3 = m 3 ∧ ∀ b0 c4 h1, BES r pool S h0 b0 c4 m h1 → RUNM G l 13 mX3_tickUpTo [.ref r, .int (J (n : Int))] h1 (fun v h' => v = some (.int (J (k : Int))) ∧ ∃ b, BES r pool S h0 b c4 m' h') := by
  obtain ⟨h1, h2, h3, h4⟩ := id h
  obtain ⟨k, s, s0, t1, t2, t3, t4, t5, t6, t7, t8, t9, t10⟩ := both_tickL (G := G) (l := l) hS hSr hPo n m B h1 h2 (by omega) (by omega)
  refine ⟨k, s k, t1, t2, ⟨t3.up (by omega), t4, by omega, by omega, by rw [t7]; exact h.2.2.2.2⟩, t5, fun b0 c4 hh hX => ?_⟩
  refine cr_tickUpTo (G := G) (l := l) 12 (T := fun i h' => ∃ b, BES r pool S h0 b c4 (s i) h') (N := k) (M := (n : Int)) ⟨by omega, by omega⟩ (fun i h' w => ?_) (fun i h' hi w => ?_) ?_ ?_
  · obtain ⟨b, w⟩ := w
    exact w.o3
  · obtain ⟨b, w⟩ := w
    obtain ⟨q, hq, R1, r1, r2, r3⟩ := t9 i hi b c4 h' w
    exact ⟨(q : Int), R1, ⟨by omega, by omega⟩, by omega, r1, r2, fun h'' w => (r3 h'' w).mono (fun _ x => ⟨_, x⟩)⟩
  · rcases t10 with t10 | t10
    · exact Or.inl (by omega)
    · refine Or.inr (fun h' w => ?_)
      obtain ⟨b, w⟩ := w
      exact t10 b c4 h' w
  · exact ⟨b0, by show BES r pool S h0 b0 c4 (s 0) hh; rw [s0]; exact hX⟩
/-- one that thinks stands ready, all as it is now -/
def THK (x y : Nat) (h : mH) (S : Nat → Option mO) (kp : Option Nat) (f4 : Int) (m kpm pool : Nat → Int) (r2 : Nat) (h1 : mH) : Prop :=
  (∃ (b : Int) (f c : Nat → Int) (C : Nat → Nat → Int) (nm : Nat → Int64) (g : Nat → Option Nat), isR h1 r2 b 0 f c C nm g ∧ CTR m pool S c C nm g) ∧ (y + 10 ≤ r2 ∧ r2 + 180 ≤ h1.2.1) ∧ (∀ a, rBlk r2 a → S a = none) ∧ (∀ w, kp = some w → w + 177 ≤ r2 ∨ r2 + 180 ≤ w) ∧ stR y h1 S ∧ keR y h1 S kp f4 kpm pool ∧ (h1.1 = h.1 ∧ ∀ b, mBlk y b ∨ b < x → hGet h1 b = hGet h b) ∧ h1.2.1 ≤ h.2.1 + 200 ∧ h1.2.2.1 ≤ h.2.2.1 + 5000
theorem think_both {G : mG} {l : Launch} (hG : G.2.map Prod.snd = mTy) {x y : Nat} {h : mH} {S : Nat → Option mO} {kp tk : Option Nat} {zr : Nat → Int} {fr : Nat → Nat → Int} {p e o zt : Int} {ft : Nat → Int} {zs : Int} {fs : Nat → Int} {b : Int} {fa : Nat → Int} {c : Nat → Int} {C : Nat → Nat → Int} {nm : Nat → Int64} {g : Nat → Option Nat} {f4 : Int} {m kpm pool : Nat → Int} (hK : isK h x kp tk zr fr p e o zt ft zs fs b 0 fa c C nm g) (hT : CTR m pool S c C nm g) (hst : stR y h S) (hke : keR y h S kp f4 kpm pool) (htk : tkR y h S kp tk) (hxy : x + 196 ≤ y ∧ y + 10 ≤ h.2.1) (hok : mOk m) (hTk : TkM m pool 99) :
    ∃ r2 h1, RUNM G l 30 mX10_thinkerOfNow [.ref x] h (fun v h' => v = some (.ref r2) ∧ h' = h1) ∧ isK h1 x kp (some r2) zr fr p e o zt ft zs fs b 0 fa c C nm g ∧ THK x y h S kp f4 m kpm pool r2 h1 := by
  obtain ⟨hc, hC⟩ := ctr_r hT
  rcases id htk with rfl | ⟨r2, b2, f2, c2, C2, nm2, g2, rfl, ⟨t1, t2⟩, t3, t4, t5, t6⟩
  · have P := kg_thinkN (G := G) (l := l) 16 hK hc hC hG (by omega) (R := fun h' => ∃ h1, isR h1 h.2.1 0 0 w0 wc0 wC0 wn0 wg0 ∧ isK h1 x kp (some h.2.1) zr fr p e o zt ft zs fs b 0 fa c C nm g ∧ (h1.1 = h.1 ∧ (∀ q, q < h.2.1 → ¬ q = x → hGet h1 q = hGet h q) ∧ h1.2.1 = h.2.1 + 180 ∧ h1.2.2.1 ≤ h.2.2.1 + 5000) ∧ (∃ c' C' nm' g', isW h' (rA h.2.1 1) c' C' nm' g' ∧ CTR m pool S c' C' nm' g') ∧ Same (wBlk (rA h.2.1 1)) h1 h') (fun h1 k1 k2 k3 => (ctr_become 27 k1.w wc0_r k2.w (Or.inr (by unfold rA kA; omega)) hT hok hTk).mono (fun v h' q => ⟨q.1, h1, k1, k2, k3, q.2.1, q.2.2⟩)) (fun h' ⟨h1, k1, k2, k3, k4, k5⟩ => (k5.2.2.2 x (by unfold wBlk rA; omega)).trans k2.gx)
    obtain ⟨v1, h1, ⟨rfl, h2, k1, k2, ⟨k3, k4, k5, k6⟩, ⟨c3, C3, nm3, g3, k7, k8⟩, k9⟩, R1⟩ := P.ex
    have z1 := k9.2.1
    have z2 := k9.2.2.1
    have oS : ∀ a, rBlk h.2.1 a → S a = none := fun a ha => by
      cases z : S a with
      | none => rfl
      | some ob => have := (hst a ob z).2.2; unfold rBlk at ha; omega
    have oo : Old (kBlk x) h h1 := ⟨k9.1.trans k3, by omega, fun b hb hn => (k9.2.2.2 b (by unfold wBlk rA; omega)).trans (k4 b hb (fun q => hn (by unfold kBlk; omega)))⟩
    refine ⟨h.2.1, h1, R1, k2.kp k9.1 (fun q hq => k9.2.2.2 q (by unfold kBlk at hq; unfold wBlk rA; omega)), ⟨0, w0, c3, C3, nm3, g3, k1.ofW k9 k7, k8⟩, ⟨by omega, by omega⟩, oS, fun w e => Or.inl ?_, hst.kp oo (fun b hb => Or.inl (by unfold kBlk at hb; omega)), hke.kp oo (fun b w e hb => by have := hke.lo e; unfold wBlk at hb; unfold kBlk; omega), ⟨k9.1.trans k3, fun b hb => (oo.2.2 b (by unfold mBlk at hb; omega) (by unfold mBlk at hb; unfold kBlk; omega))⟩, by omega, by omega⟩
    rcases hke with ⟨k, -⟩ | ⟨w', c', C', nm', g', ⟨s1, s2⟩, ⟨s3, s4⟩, -⟩
    · rw [k] at e; cases e
    · rw [s1] at e; cases e; exact s4
  · have P := kg_thinkS (G := G) (l := l) 16 hK hc hC t5 (R := fun h' => (∃ c' C' nm' g', isW h' (rA r2 1) c' C' nm' g' ∧ CTR m pool S c' C' nm' g') ∧ Same (wBlk (rA r2 1)) h h') ((ctr_become 27 t5.w t6 hK.w (Or.inr (by unfold rA kA; omega)) hT hok hTk).mono (fun v h' q => q)) (fun h' k => k.2.2.2.2 x (by unfold wBlk rA; omega))
    obtain ⟨v1, h1, ⟨rfl, ⟨c3, C3, nm3, g3, k7, k8⟩, k9⟩, R1⟩ := P.ex
    have z1 := k9.2.1
    have z2 := k9.2.2.1
    exact ⟨r2, h1, R1, hK.kp k9.1 (fun q hq => k9.2.2.2 q (by unfold kBlk at hq; unfold wBlk rA; omega)), ⟨b2, f2, c3, C3, nm3, g3, t5.ofW k9 k7, k8⟩, ⟨t1, by omega⟩, t3, t4, hst.kp (Old.of k9) (fun b hb => Or.inr (t3 b (by unfold wBlk rA at hb; unfold rBlk; omega))), hke.kp (Old.of k9) (fun b w e hb => by have := t4 w e; unfold wBlk at hb; unfold wBlk rA; omega), ⟨k9.1, fun b hb => k9.2.2.2 b (by unfold mBlk at hb; unfold wBlk rA; omega)⟩, by omega, by omega⟩

set_option maxHeartbeats 4000000 in
set_option maxRecDepth 100000 in
theorem two_would {sg : Bool} {G : mG} {l : Launch} (hG : G.2.map Prod.snd = mTy) {x y n0 : Nat} {h : mH} (hn0 : n0 ≤ 600) (hI : RI sg x y n0 h) {a : Int} (ha : InR a) {i : Int} (hi : InR i) : TWO sg G l x y n0 false mX10_would mX11_would [.int (J a), .int (J i)] h := by
  obtain ⟨f4, m, kpm, pool, zt, ft, f18, pap, rwd, rw, hCH, hMH, hSO, hSZ⟩ := hI
  obtain ⟨S, kp, tk, zr, fr, p, e, o, zs, fs, b, fa, c, C, nm, g, hK, ⟨hT, hst, hke, htk⟩, hro, hpa, hxy⟩ := id hCH
  obtain ⟨⟨hA, hPo⟩, hkp, hta, h18, hrw⟩ := id hSO
  obtain ⟨N, K, T, Z, F, hX⟩ := fx_of hT hA
  obtain ⟨⟨mN, cN, N90⟩, ⟨mK, cK, K1, K60⟩, ⟨mT, cT, T10⟩, ⟨cZ, Z150⟩, ⟨⟨c11, c12, c13⟩, F90, c4⟩, ⟨hO, hpR, hpO, hoO⟩, ⟨c8, c9, L0, L90⟩, ⟨hc, hC⟩, hst2, htp⟩ := id hX
  obtain ⟨⟨hInv, hsc, hnc, hns⟩, hTk, hm7, hm8⟩ := id hA
  have hok := hInv.1
  have hM := hok.1
  have hCR := hT.1
  have hcT := hCR.2.1
  have hcS := hCR.2.2.1
  have hcK := hCR.2.2.2.1
  have hcL := hCR.2.2.2.2.1
  have hst3 : ∀ t : Nat, (t : Int) < m 1 → 0 ≤ m (258 + 14 * t) ∧ m (258 + 14 * t) ≤ 2 := fun t ht => (hst2 t ht).1
  by_cases w : (0 ≤ a ∧ a ≤ m 0 - 1) ∧ (0 ≤ i ∧ i ≤ 5)
  · obtain ⟨q, rfl⟩ : ∃ q : Nat, a = q := ⟨a.toNat, by omega⟩
    have e18 : ((18 : Int) + 4 * (q : Int)).toNat = 18 + 4 * q := by omega
    have eq : ((q : Int)).toNat = q := by omega
    have s0 : c (304 + 3 * q) = 0 ↔ m (18 + 4 * q) = 0 := by rw [(hcS q (by omega)).1]; exact swT_0 (hsc.2.2 q (by omega)).1
    have hop : openP m (q : Int) ↔ m (18 + 4 * q) = 0 := ⟨fun z => by have := z.2.2; rwa [e18] at this, fun z => ⟨w.1.1, w.1.2, by rw [e18]; exact z⟩⟩
    by_cases w2 : m (18 + 4 * q) = 0
    · have cd : openP m (q : Int) := hop.mpr w2
      have t1 := s0.mpr w2
      obtain ⟨r2, h1, R1, k2, ⟨b1, f1, c1, C1, nm1, g1, r1, r0⟩, ⟨s1, s2⟩, s3, s4, s5, s6, ⟨s7, s8⟩, s9, s10⟩ := think_both (G := G) (l := l) hG hK hT hst hke htk hxy hok hTk
      obtain ⟨m2, x1, hA2, x3, x4⟩ := both_shut (G := G) (l := l) (r := r2) (h0 := h1) s5.hS (fun a e q => e (s3 a q)) hA hPo (by omega) cd
      obtain ⟨v2, h2, ⟨rfl, c5, f3, c3, C3, nm3, g3, hR3, hS3, hC3, hTK3, -⟩, R2⟩ := (x4 b1 (c1 4) h1 ⟨f1, c1, C1, nm1, g1, r1, Same.refl, r0.1, r0.2, rfl⟩).ex
      have hT3 : CTR m2 pool S c3 C3 nm3 g3 := ⟨hC3, hTK3⟩
      obtain ⟨N3, K3, T3, Z3, F3, hX3⟩ := fx_of hT3 hA2
      have eh := fx_held hT3 hA2 hX3
      obtain ⟨⟨xN, dN, N390⟩, -, ⟨xT, dT, T310⟩, -, ⟨⟨d11, d12, d13⟩, F390, d4⟩, ⟨hO3, -⟩, ⟨-, d9, -⟩, ⟨hc3, hC3r⟩, -⟩ := id hX3
      have hK3 := k2.kp hS3.1 (fun q hq => hS3.2.2.2 q (by unfold kBlk at hq; unfold rBlk; omega))
      have hok2 := hA2.1.1.1
      obtain ⟨N4, m4⟩ : ∃ q : Nat, m2 4 = q := ⟨(m2 4).toNat, by have := hA2.1.1.1.2.2.2.2.2.1; omega⟩
      have e5 : manyV m2 N4 (-1) = m2 5 := mv_call
      have r5 := hok2.2.2.2.2.2.2.1
      have ea : (if i = 0 then m2 5 else if i = 1 then fnF c3 (C3 5) (C3 3) F3 (-1) 0 else if i = 2 then fgF c3 (C3 5) (C3 4) F3 (-1) 0 else if i = 3 then c3 9 - c 9 else if i = 4 then c3 0 - c 0 else cnt (hwB c3 0) N3) = wouldV m2 m i := by
        unfold wouldV
        rw [eh, d9, c9, dN, cN, xN, mN, Int.toNat_natCast]
        by_cases z : m2 5 = 0
        · have fn := fn_none hC3 hTK3 hok2 (t := -1) (Or.inl rfl) m4 d11 (e5.trans z)
          rw [fn.1, fn.2, if_pos z, if_pos z]
        · have fn := fn_eq hC3 hTK3 hok2 (t := -1) (k := 0) (Or.inl rfl) m4 d11 ⟨by decide, by rw [e5]; omega⟩
          rw [fn.1, fn.2, if_neg z, if_neg z, fv_call, fv_call]
          rfl
      refine TWO.of (dm := 1000) (z := .int (J (wouldV m2 m i))) (f4' := f4) (m' := m) (kpm' := kpm) (pool' := pool) (zt' := zt) (ft' := ft) (f18' := f18) (pap' := pap) (rwd' := rwd) (rw' := rw) (Nat.le_of_ble_eq_true rfl) (Nat.le_of_ble_eq_true rfl) ⟨_, rfl⟩ hSZ hMH ((kg_would 16 hK hc hC ha hi (h1 := h1) (h2 := h2) (r2 := r2) (n1 := m2 5) (hok2.1 5) (fun _ => R1) (fun _ => r1) (fun _ => R2.deeper (Nat.le_of_ble_eq_true rfl)) (fun _ => hR3) (fun _ => hK3) hc3 hC3r (fun _ => hO3) (N := N3) (fun _ => ⟨dN, N390⟩) (F := F3) (fun _ => ⟨⟨d11, d12, d13⟩, F390, d4⟩)).mono (fun v h' q0 => ?_)) (fun h1 hM1 => ?_) ?_
      · rw [eq, ea] at q0
        rcases q0 with q0 | q0 | ⟨-, q1, rfl⟩
        · exfalso; omega
        · exfalso; omega
        · refine ⟨q1, ⟨S, kp, some r2, zr, fr, p, e, o, zs, fs, b, fa, c, C, nm, g, hK3, ⟨hT, s5.kp (Old.of hS3) (fun b hb => Or.inr (s3 b hb)), s6.kp (Old.of hS3) (fun b w e hb => by have := s4 w e; unfold wBlk at hb; unfold rBlk; omega), Or.inr ⟨r2, (-1), f3, c3, C3, nm3, g3, rfl, ⟨s1, by have := hS3.2.1; omega⟩, s3, s4, hR3, hc3, hC3r⟩⟩, hro, hpa, hxy.1, by have := hS3.2.1; omega⟩, ⟨hS3.1.trans s7, fun b hb => (hS3.2.2.2 b (by unfold mBlk at hb; unfold rBlk; omega)).trans (s8 b hb)⟩, by have := hS3.2.1; omega, by have := hS3.2.2.1; omega⟩
      · obtain ⟨f14, f16, was, pln, r14, f8, f9, f10, f11, f12, f13, s, r11, hB⟩ := id hM1
        refine ((m_would (m' := m2) hPo.r hB hok ha hi (fun _ => ⟨x1, hok2⟩)).deeper (Nat.le_of_ble_eq_true rfl)).mono (fun v h2 q0 => ?_)
        rcases q0 with ⟨q1, -⟩ | ⟨-, q1, -⟩ | ⟨-, -, q1, ⟨was2, q2⟩, q3⟩
        · exact absurd w q1
        · exact absurd cd q1
        · exact ⟨q1, ⟨-1, f16, was2, pln, by decide, q2.isMs r11⟩, q3⟩
      · exact hSO.up
    · have cd : ¬ openP m (q : Int) := fun z => w2 (hop.mp z)
      have t1 : ¬ c (304 + 3 * q) = 0 := fun z => w2 (s0.mp z)
      refine TWO.ask (z := .int (J (-3))) (Nat.le_of_ble_eq_true rfl) (Nat.le_of_ble_eq_true rfl) ⟨_, rfl⟩ hCH hMH hSO hSZ ((kg_would 16 hK hc hC ha hi (h1 := h) (h2 := h) (r2 := 0) (b2 := 0) (z2 := 0) (f2 := w0) (c2 := w0) (C2 := fun _ => w0) (nm2 := wn0) (g2 := wg0) (b3 := 0) (z3 := 0) (f3 := w0) (c3 := w0) (C3 := fun _ => w0) (nm3 := wn0) (g3 := wg0) (n1 := 0) (N := 0) (F := 0) (by decide) (fun z => absurd z (fun z => t1 (by have := z.2; rwa [eq] at this))) (fun z => absurd z (fun z => t1 (by have := z.2; rwa [eq] at this))) (fun z => absurd z (fun z => t1 (by have := z.2; rwa [eq] at this))) (fun z => absurd z (fun z => t1 (by have := z.2; rwa [eq] at this))) (fun z => absurd z (fun z => t1 (by have := z.2; rwa [eq] at this))) w0_r (fun _ => w0_r) (fun z => absurd z (fun z => t1 (by have := z.2; rwa [eq] at this))) (fun z => absurd z (fun z => t1 (by have := z.2; rwa [eq] at this))) (fun z => absurd z (fun z => t1 (by have := z.2; rwa [eq] at this)))).mono (fun v h' q0 => ?_)) (fun h1 f8 f9 f10 f11 f12 f13 f14 f16 was pln s r14 r11 hB => (m_would (m' := m) hPo.r hB hok ha hi (fun z => absurd z cd)).mono (fun v h2 q0 => ?_))
      · rw [eq] at q0
        rcases q0 with q0 | q0 | q0
        · exfalso; omega
        · exact ⟨q0.2.2.1, q0.2.2.2⟩
        · exact absurd q0.1.2 t1
      · rcases q0 with q0 | q0 | q0
        · exact absurd w q0.1
        · exact ⟨q0.2.2.1, q0.2.2.2⟩
        · exact absurd q0.2.1 cd
  · have cd : ¬ (openP m a ∧ (0 ≤ i ∧ i ≤ 5)) := fun z => w ⟨⟨z.1.1, z.1.2.1⟩, z.2⟩
    have wc : ¬ (inW c 1 60 a ∧ (0 ≤ i ∧ i ≤ 5)) := fun z => w ⟨⟨by omega, by omega⟩, z.2⟩
    by_cases wo : openP m a
    · have hm2 : ∃ m2, shutsR pool (-1) 61 (updI m 5 0) a m2 ∧ mOk m2 := by
        obtain ⟨m2, x1, x2, -⟩ := all_shut hA hPo (by omega) wo
        exact ⟨m2, x1, x2.1.1.1⟩
      obtain ⟨m2, hm2⟩ := hm2
      refine TWO.ask (z := .int (J (-1))) (Nat.le_of_ble_eq_true rfl) (Nat.le_of_ble_eq_true rfl) ⟨_, rfl⟩ hCH hMH hSO hSZ ((kg_would 16 hK hc hC ha hi (h1 := h) (h2 := h) (r2 := 0) (b2 := 0) (z2 := 0) (f2 := w0) (c2 := w0) (C2 := fun _ => w0) (nm2 := wn0) (g2 := wg0) (b3 := 0) (z3 := 0) (f3 := w0) (c3 := w0) (C3 := fun _ => w0) (nm3 := wn0) (g3 := wg0) (n1 := 0) (N := 0) (F := 0) (by decide) (fun z => absurd z (fun z => wc z.1)) (fun z => absurd z (fun z => wc z.1)) (fun z => absurd z (fun z => wc z.1)) (fun z => absurd z (fun z => wc z.1)) (fun z => absurd z (fun z => wc z.1)) w0_r (fun _ => w0_r) (fun z => absurd z (fun z => wc z.1)) (fun z => absurd z (fun z => wc z.1)) (fun z => absurd z (fun z => wc z.1))).mono (fun v h' q0 => ?_)) (fun h1 f8 f9 f10 f11 f12 f13 f14 f16 was pln s r14 r11 hB => (m_would (m' := m2) hPo.r hB hok ha hi (fun _ => hm2)).mono (fun v h2 q0 => ?_))
      · rcases q0 with q0 | q0 | q0
        · exact ⟨q0.2.1, q0.2.2⟩
        · exact absurd q0.1 wc
        · exact absurd q0.1.1 wc
      · rcases q0 with q0 | q0 | q0
        · exact ⟨q0.2.1, q0.2.2⟩
        · exact absurd q0.1 w
        · exact absurd q0.1 w
    · skip
      refine TWO.ask (z := .int (J (-1))) (Nat.le_of_ble_eq_true rfl) (Nat.le_of_ble_eq_true rfl) ⟨_, rfl⟩ hCH hMH hSO hSZ ((kg_would 16 hK hc hC ha hi (h1 := h) (h2 := h) (r2 := 0) (b2 := 0) (z2 := 0) (f2 := w0) (c2 := w0) (C2 := fun _ => w0) (nm2 := wn0) (g2 := wg0) (b3 := 0) (z3 := 0) (f3 := w0) (c3 := w0) (C3 := fun _ => w0) (nm3 := wn0) (g3 := wg0) (n1 := 0) (N := 0) (F := 0) (by decide) (fun z => absurd z (fun z => wc z.1)) (fun z => absurd z (fun z => wc z.1)) (fun z => absurd z (fun z => wc z.1)) (fun z => absurd z (fun z => wc z.1)) (fun z => absurd z (fun z => wc z.1)) w0_r (fun _ => w0_r) (fun z => absurd z (fun z => wc z.1)) (fun z => absurd z (fun z => wc z.1)) (fun z => absurd z (fun z => wc z.1))).mono (fun v h' q0 => ?_)) (fun h1 f8 f9 f10 f11 f12 f13 f14 f16 was pln s r14 r11 hB => (m_would (m' := m) hPo.r hB hok ha hi (fun z => absurd z wo)).mono (fun v h2 q0 => ?_))
      · rcases q0 with q0 | q0 | q0
        · exact ⟨q0.2.1, q0.2.2⟩
        · exact absurd q0.1 wc
        · exact absurd q0.1.1 wc
      · rcases q0 with q0 | q0 | q0
        · exact ⟨q0.2.1, q0.2.2⟩
        · exact absurd q0.1 w
        · exact absurd q0.1 w
set_option maxHeartbeats 4000000 in
set_option maxRecDepth 100000 in
theorem two_trial {sg : Bool} {G : mG} {l : Launch} (hG : G.2.map Prod.snd = mTy) {x y n0 : Nat} {h : mH} (hn0 : n0 ≤ 600) (hI : RI sg x y n0 h) {a : Int} (ha : InR a) {i : Int} (hi : InR i) {u : Int} (hu : InR u) : TWO sg G l x y n0 false mX10_trial mX11_trial [.int (J a), .int (J i), .int (J u)] h := by
  obtain ⟨f4, m, kpm, pool, zt, ft, f18, pap, rwd, rw, hCH, hMH, hSO, hSZ⟩ := hI
  obtain ⟨S, kp, tk, zr, fr, p, e, o, zs, fs, b, fa, c, C, nm, g, hK, ⟨hT, hst, hke, htk⟩, hro, hpa, hxy⟩ := id hCH
  obtain ⟨⟨hA, hPo⟩, hkp, hta, h18, hrw⟩ := id hSO
  obtain ⟨N, K, T, Z, F, hX⟩ := fx_of hT hA
  obtain ⟨⟨mN, cN, N90⟩, ⟨mK, cK, K1, K60⟩, ⟨mT, cT, T10⟩, ⟨cZ, Z150⟩, ⟨⟨c11, c12, c13⟩, F90, c4⟩, ⟨hO, hpR, hpO, hoO⟩, ⟨c8, c9, L0, L90⟩, ⟨hc, hC⟩, hst2, htp⟩ := id hX
  obtain ⟨⟨hInv, hsc, hnc, hns⟩, hTk, hm7, hm8⟩ := id hA
  have hok := hInv.1
  have hM := hok.1
  have hCR := hT.1
  have hcT := hCR.2.1
  have hcS := hCR.2.2.1
  have hcK := hCR.2.2.2.1
  have hcL := hCR.2.2.2.2.1
  have hst3 : ∀ t : Nat, (t : Int) < m 1 → 0 ≤ m (258 + 14 * t) ∧ m (258 + 14 * t) ≤ 2 := fun t ht => (hst2 t ht).1
  by_cases wn : 0 ≤ i ∧ i ≤ 100
  · obtain ⟨nn, rfl⟩ : ∃ q : Nat, i = q := ⟨i.toNat, by omega⟩
    have en : ((nn : Int)).toNat = nn := by omega
    obtain ⟨r2, h1, R1, k2, ⟨b1, f1, c1, C1, nm1, g1, r1, r0⟩, ⟨s1, s2⟩, s3, s4, s5, s6, ⟨s7, s8⟩, s9, s10⟩ := think_both (G := G) (l := l) hG hK hT hst hke htk hxy hok hTk
    obtain ⟨kk, m2, x1, x2, hA2, x3, x4⟩ := both_ticks3 (G := G) (l := l) (r := r2) (h0 := h1) (n := nn) s5.hS (fun a e q => e (s3 a q)) hPo hA (by omega) (by omega) (by omega)
    have mR : ∀ z : 0 ≤ (nn : Int) ∧ (nn : Int) ≤ 100, ticksR pool ((nn : Int)).toNat m kk m2 ∧ mOk m2 := fun _ => ⟨by rw [en]; exact x1, hA2.1.1.1⟩
    by_cases w : (0 ≤ a ∧ a ≤ m 3 - 1) ∧ (0 ≤ u ∧ u ≤ 5)
    · obtain ⟨q, rfl⟩ : ∃ q : Nat, a = q := ⟨a.toNat, by omega⟩
      have eq : ((q : Int)).toNat = q := by omega
      obtain ⟨v2, h2, ⟨rfl, b3, f3, c3, C3, nm3, g3, hR3, hS3, hC3, hTK3, -⟩, R2⟩ := (x4 b1 (c1 4) h1 ⟨f1, c1, C1, nm1, g1, r1, Same.refl, r0.1, r0.2, rfl⟩).ex
      have hT3 : CTR m2 pool S c3 C3 nm3 g3 := ⟨hC3, hTK3⟩
      obtain ⟨N3, K3, T3, Z3, F3, hX3⟩ := fx_of hT3 hA2
      have eh := fx_held hT3 hA2 hX3
      obtain ⟨⟨xN, dN, N390⟩, -, ⟨xT, dT, T310⟩, -, ⟨⟨d11, d12, d13⟩, F390, d4⟩, ⟨hO3, -⟩, ⟨-, d9, -⟩, ⟨hc3, hC3r⟩, -⟩ := id hX3
      have hK3 := k2.kp hS3.1 (fun q hq => hS3.2.2.2 q (by unfold kBlk at hq; unfold rBlk; omega))
      have hok2 := hA2.1.1.1
      obtain ⟨N4, m4⟩ : ∃ q : Nat, m2 4 = q := ⟨(m2 4).toNat, by have := hA2.1.1.1.2.2.2.2.2.1; omega⟩
      have tq : (q : Int) = -1 ∨ (0 ≤ (q : Int) ∧ (q : Int) ≤ m2 3 - 1) := Or.inr ⟨by omega, by omega⟩
      have e10 : ((1610 : Int) + 72 * (q : Int)).toNat = 1610 + 72 * q := by omega
      have e12 : ((1612 : Int) + 72 * (q : Int)).toNat = 1612 + 72 * q := by omega
      have ea : (if u = 0 then fcF c3 (C3 5) F3 q else if u = 1 then fnF c3 (C3 5) (C3 3) F3 q 0 else if u = 2 then fgF c3 (C3 5) (C3 4) F3 q 0 else if u = 3 then (if inW c3 2 10 q then c3 (489 + 9 * q) else -1) else if u = 4 then (if inW c3 2 10 q then c3 (491 + 9 * q) else -1) else c3 9) = trialV m2 q u := by
        unfold trialV
        have e4 : (m2 4).toNat = N4 := by omega
        have k0 := (hC3.2.2.2.1 q (by omega)).1
        have k1 := (hTK3.2 q (by omega)).1.2.2.1
        have wq : inW c3 2 10 (q : Int) := ⟨by omega, by omega, by omega⟩
        have mr : 0 ≤ manyV m2 N4 q := by
          have := cnt_r (faultB m2 q) N4
          unfold manyV
          (repeat' split) <;> omega
        rw [e4, if_pos wq, if_pos wq, fc_eq hC3 hTK3 hok2 tq m4 d11, e10, e12, k0, k1, d9]
        by_cases z : manyV m2 N4 q = 0
        · have fn := fn_none hC3 hTK3 hok2 tq m4 d11 z
          rw [fn.1, fn.2, if_pos z, if_pos z]
        · have fn := fn_eq hC3 hTK3 hok2 tq (k := 0) m4 d11 ⟨by decide, by omega⟩
          rw [fn.1, fn.2, if_neg z, if_neg z]
      refine TWO.of (dm := 1000) (z := .int (J (trialV m2 q u))) (f4' := f4) (m' := m) (kpm' := kpm) (pool' := pool) (zt' := zt) (ft' := ft) (f18' := f18) (pap' := pap) (rwd' := rwd) (rw' := rw) (Nat.le_of_ble_eq_true rfl) (Nat.le_of_ble_eq_true rfl) ⟨_, rfl⟩ hSZ hMH ((kg_trial 16 hK hc hC ha hi hu (h1 := h1) (h2 := h2) (r2 := r2) (n1 := (kk : Int)) ⟨by omega, by omega⟩ (fun _ => R1) (fun _ => r1) (fun _ => R2.deeper (Nat.le_of_ble_eq_true rfl)) (fun _ => hR3) (fun _ => hK3) hc3 hC3r (fun _ => hO3) (N := N3) (fun _ => ⟨dN, N390⟩) (F := F3) (fun _ => ⟨⟨d11, d12, d13⟩, F390, d4⟩)).mono (fun v h' q0 => ?_)) (fun h1 hM1 => ?_) ?_
      · rw [eq, ea] at q0
        rcases q0 with q0 | q0 | ⟨-, q1, rfl⟩
        · exfalso; omega
        · exfalso; omega
        · refine ⟨q1, ⟨S, kp, some r2, zr, fr, p, e, o, zs, fs, b, fa, c, C, nm, g, hK3, ⟨hT, s5.kp (Old.of hS3) (fun b hb => Or.inr (s3 b hb)), s6.kp (Old.of hS3) (fun b w e hb => by have := s4 w e; unfold wBlk at hb; unfold rBlk; omega), Or.inr ⟨r2, b3, f3, c3, C3, nm3, g3, rfl, ⟨s1, by have := hS3.2.1; omega⟩, s3, s4, hR3, hc3, hC3r⟩⟩, hro, hpa, hxy.1, by have := hS3.2.1; omega⟩, ⟨hS3.1.trans s7, fun b hb => (hS3.2.2.2 b (by unfold mBlk at hb; unfold rBlk; omega)).trans (s8 b hb)⟩, by have := hS3.2.1; omega, by have := hS3.2.2.1; omega⟩
      · obtain ⟨f14, f16, was, pln, r14, f8, f9, f10, f11, f12, f13, s, r11, hB⟩ := id hM1
        refine ((m_trial (kk := kk) (m' := m2) hPo.r r14 hB hok ha hi hu mR).deeper (Nat.le_of_ble_eq_true rfl)).mono (fun v h2 q0 => ?_)
        rcases q0 with ⟨q1, -⟩ | ⟨-, q1, -⟩ | ⟨-, -, q1, ⟨was2, g14, rg, q2⟩, q3⟩
        · exact absurd w q1
        · exact absurd wn q1
        · exact ⟨q1, ⟨g14, f16, was2, pln, rg, q2.isMs r11⟩, q3⟩
      · exact hSO.up
    · have wc : ¬ (inW c 2 10 a ∧ (0 ≤ u ∧ u ≤ 5)) := fun z => w ⟨⟨by omega, by omega⟩, z.2⟩
      refine TWO.ask (z := .int (J (-1))) (Nat.le_of_ble_eq_true rfl) (Nat.le_of_ble_eq_true rfl) ⟨_, rfl⟩ hCH hMH hSO hSZ ((kg_trial 16 hK hc hC ha hi hu (h1 := h) (h2 := h) (r2 := 0) (b2 := 0) (z2 := 0) (f2 := w0) (c2 := w0) (C2 := fun _ => w0) (nm2 := wn0) (g2 := wg0) (b3 := 0) (z3 := 0) (f3 := w0) (c3 := w0) (C3 := fun _ => w0) (nm3 := wn0) (g3 := wg0) (n1 := 0) (N := 0) (F := 0) (by decide) (fun z => absurd z (fun z => wc z.1)) (fun z => absurd z (fun z => wc z.1)) (fun z => absurd z (fun z => wc z.1)) (fun z => absurd z (fun z => wc z.1)) (fun z => absurd z (fun z => wc z.1)) w0_r (fun _ => w0_r) (fun z => absurd z (fun z => wc z.1)) (fun z => absurd z (fun z => wc z.1)) (fun z => absurd z (fun z => wc z.1))).mono (fun v h' q0 => ?_)) (fun h1 f8 f9 f10 f11 f12 f13 f14 f16 was pln s r14 r11 hB => (m_trial (kk := kk) (m' := m2) hPo.r r14 hB hok ha hi hu mR).mono (fun v h2 q0 => ?_))
      · rcases q0 with q0 | q0 | q0
        · exact ⟨q0.2.1, q0.2.2⟩
        · exact absurd q0.1 wc
        · exact absurd q0.1.1 wc
      · rcases q0 with q0 | q0 | q0
        · exact ⟨q0.2.1, q0.2.2⟩
        · exact absurd q0.1 w
        · exact absurd q0.1 w
  · by_cases w : (0 ≤ a ∧ a ≤ m 3 - 1) ∧ (0 ≤ u ∧ u ≤ 5)
    · skip
      refine TWO.ask (z := .int (J (-2))) (Nat.le_of_ble_eq_true rfl) (Nat.le_of_ble_eq_true rfl) ⟨_, rfl⟩ hCH hMH hSO hSZ ((kg_trial 16 hK hc hC ha hi hu (h1 := h) (h2 := h) (r2 := 0) (b2 := 0) (z2 := 0) (f2 := w0) (c2 := w0) (C2 := fun _ => w0) (nm2 := wn0) (g2 := wg0) (b3 := 0) (z3 := 0) (f3 := w0) (c3 := w0) (C3 := fun _ => w0) (nm3 := wn0) (g3 := wg0) (n1 := 0) (N := 0) (F := 0) (by decide) (fun z => absurd z (fun z => wn z.2)) (fun z => absurd z (fun z => wn z.2)) (fun z => absurd z (fun z => wn z.2)) (fun z => absurd z (fun z => wn z.2)) (fun z => absurd z (fun z => wn z.2)) w0_r (fun _ => w0_r) (fun z => absurd z (fun z => wn z.2)) (fun z => absurd z (fun z => wn z.2)) (fun z => absurd z (fun z => wn z.2))).mono (fun v h' q0 => ?_)) (fun h1 f8 f9 f10 f11 f12 f13 f14 f16 was pln s r14 r11 hB => (m_trial (kk := 0) (m' := m) hPo.r r14 hB hok ha hi hu (fun z => absurd z wn)).mono (fun v h2 q0 => ?_))
      · rcases q0 with q0 | q0 | q0
        · exfalso; omega
        · exact ⟨q0.2.2.1, q0.2.2.2⟩
        · exact absurd q0.1.2 wn
      · rcases q0 with q0 | q0 | q0
        · exact absurd w q0.1
        · exact ⟨q0.2.2.1, q0.2.2.2⟩
        · exact absurd q0.2.1 wn
    · have wc : ¬ (inW c 2 10 a ∧ (0 ≤ u ∧ u ≤ 5)) := fun z => w ⟨⟨by omega, by omega⟩, z.2⟩
      refine TWO.ask (z := .int (J (-1))) (Nat.le_of_ble_eq_true rfl) (Nat.le_of_ble_eq_true rfl) ⟨_, rfl⟩ hCH hMH hSO hSZ ((kg_trial 16 hK hc hC ha hi hu (h1 := h) (h2 := h) (r2 := 0) (b2 := 0) (z2 := 0) (f2 := w0) (c2 := w0) (C2 := fun _ => w0) (nm2 := wn0) (g2 := wg0) (b3 := 0) (z3 := 0) (f3 := w0) (c3 := w0) (C3 := fun _ => w0) (nm3 := wn0) (g3 := wg0) (n1 := 0) (N := 0) (F := 0) (by decide) (fun z => absurd z (fun z => wc z.1)) (fun z => absurd z (fun z => wc z.1)) (fun z => absurd z (fun z => wc z.1)) (fun z => absurd z (fun z => wc z.1)) (fun z => absurd z (fun z => wc z.1)) w0_r (fun _ => w0_r) (fun z => absurd z (fun z => wc z.1)) (fun z => absurd z (fun z => wc z.1)) (fun z => absurd z (fun z => wc z.1))).mono (fun v h' q0 => ?_)) (fun h1 f8 f9 f10 f11 f12 f13 f14 f16 was pln s r14 r11 hB => (m_trial (kk := 0) (m' := m) hPo.r r14 hB hok ha hi hu (fun z => absurd z wn)).mono (fun v h2 q0 => ?_))
      · rcases q0 with q0 | q0 | q0
        · exact ⟨q0.2.1, q0.2.2⟩
        · exact absurd q0.1 wc
        · exact absurd q0.1.1 wc
      · rcases q0 with q0 | q0 | q0
        · exact ⟨q0.2.1, q0.2.2⟩
        · exact absurd q0.1 w
        · exact absurd q0.1 w
end mg_h1
section mg_h2
/-! ===== what is spelled, whatever it is, on both ===== -/
theorem naL_le {sr : Nat → Int} : ∀ (n p : Nat) (v : Int), 0 ≤ v → 0 ≤ naL sr n p v ∧ naL sr n p v < (v + 1) * tenP n
  | 0, p, v, h => by unfold naL tenP; omega
  | n + 1, p, v, h => by
    have t := tenP_1 n
    unfold naL
    split
    · rename_i c
      have ih := naL_le (sr := sr) n (p + 1) (10 * v + sr p - 48) (by omega)
      refine ⟨ih.1, Int.lt_of_lt_of_le ih.2 ?_⟩
      show (10 * v + sr p - 48 + 1) * tenP n ≤ (v + 1) * (10 * tenP n)
      rw [← Int.mul_assoc]
      exact Int.mul_le_mul_of_nonneg_right (by omega) (by omega)
    · refine ⟨h, ?_⟩
      have h1 : 1 ≤ tenP (n + 1) := tenP_1 (n + 1)
      have h2 : (v + 1) * 1 ≤ (v + 1) * tenP (n + 1) := Int.mul_le_mul_of_nonneg_left h1 (by omega)
      omega
theorem naL_6 {sr : Nat → Int} {n p : Nat} (hn : n ≤ 5) : rng6 (naL sr n p 0) := by
  have y := naL_le (sr := sr) n p 0 (by decide)
  have t : tenP n ≤ 100000 := by
    match n, hn with
    | 0, _ => decide
    | 1, _ => decide
    | 2, _ => decide
    | 3, _ => decide
    | 4, _ => decide
    | 5, _ => decide
  exact ⟨by omega, by omega⟩
theorem sgV_6 {sr : Nat → Int} {p : Nat} : rng6 (sgV sr p) := by
  unfold sgV
  split
  · have y := naL_6 (sr := sr) (n := 5) (p := p + 1) (by decide)
    exact ⟨by omega, by omega⟩
  · exact naL_6 (by decide)
section WX
variable {S : Nat → Option mO} {sr : Nat → Int}
end WX
section JD
variable {sg : Bool} {G : mG} {l : Launch} {x y n : Nat} {h : mH}
theorem JUD.of {f4 : Int} {m kpm pool : Nat → Int} {zt : Int} {ft : Nat → Int} {f18 : Int} {pap rwd rw : Nat → Int} {Mc Mm : mM} {args : List Value} {dc dm : Nat} (hdc : dc ≤ 1000) (hdm : dm ≤ 1000) {f4' : Int} {m' kpm' pool' : Nat → Int} {zt' : Int} {ft' : Nat → Int} {f18' : Int} {pap' rwd' rw' : Nat → Int} (hz : SZ y n h) (hM : MH y f4 m kpm pool zt ft f18 pap rwd rw h)
    (hc : RUNM G l dc Mc (.ref x :: args) h (fun v h1 => (∃ w, v = some (.int w)) ∧ CP sg x y f4' m' kpm' pool' zt' ft' f18' pap' rwd' rw' h h1))
    (hm : ∀ h1 : mH, h1.1 = h.1 → (∀ b, mBlk y b → hGet h1 b = hGet h b) → RUNM G l dm Mm (.ref y :: args) h1 (fun v h2 => (∃ w, v = some (.int w)) ∧ MH y f4' m' kpm' pool' zt' ft' f18' pap' rwd' rw' h2 ∧ Same (mBlk y) h1 h2))
    (hs : SO (n + 1) f4' m' kpm' pool' zt' ft' f18' rwd' rw') : JUD sg G l x y n Mc Mm args h := by
  refine (hc.deeper hdc).mono (fun v h1 q => ?_)
  obtain ⟨⟨w, q1⟩, q2, ⟨q3, q4⟩, q5, q6⟩ := q
  refine ⟨w, q1, MDL.of q3 q4 hM, ((hm h1 q3 (fun b hb => q4 b (Or.inl hb))).deeper hdm).mono (fun v2 h2 r => ?_)⟩
  obtain ⟨⟨w2, r1⟩, r2, r3⟩ := r
  have e1 := r3.2.1
  have e2 := r3.2.2.1
  obtain ⟨z1, z2⟩ := hz
  have xy := q2.xy
  exact ⟨w2, r1, ⟨f4', m', kpm', pool', zt', ft', f18', pap', rwd', rw', q2.kp (Old.of r3), r2, hs, by omega, by omega⟩, r3.1.trans q3, fun q hq => (r3.2.2.2 q (by unfold mBlk; omega)).trans (q4 q (Or.inr hq))⟩
set_option maxHeartbeats 4000000 in
set_option maxRecDepth 100000 in
theorem cs_stepsW {S : Nat → Option mO} {h0 : mH} {a : Nat} (hS : ∀ q o, S q = some o → hGet h0 q = some o) (hSd : ∀ q, ¬ S q = none → ¬ dBlk a q) {n t q : Nat} {L : List Int} (ht : t ≤ 9) (hX : wX S n true t q L) {h : mH} {s : (Nat → Int) × Int} (hs : Same (dBlk a) h0 h) (I : isSs h a s) : RUNM G l (3 * n + 6) mX5_writeSteps [.ref a, .ref q, .int (J (t : Int))] h (fun v h' => v = none ∧ isSs h' a (apS s L) ∧ Same (dBlk a) h h') := by
  refine RUNM.of (by decide +kernel) (Nat.le_of_ble_eq_true rfl) ?_
  refine r_aload_n (pc := 0) dX5_writeSteps_0 rfl (by first | rfl | exact isRefV_rf _) ?_
  refine r_astore_n (pc := 1) dX5_writeSteps_1 (Nat.le_of_ble_eq_true rfl) (by first | rfl | exact isRefV_rf _) ?_
  dsimp only [lsSt, List.set, mLs, mEnt]
  exact (cs_X hS hSd n).2 t q q L ht hX h s hs I
end JD
end mg_h2

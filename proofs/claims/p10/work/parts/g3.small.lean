/-! ===== calls that change a little, on both ===== -/
section G3
variable {sg : Bool} {x y n : Nat} {h h1 : mH} {f4 : Int} {m kpm pool : Nat → Int} {zt : Int} {ft : Nat → Int} {f18 : Int} {pap rwd rw : Nat → Int}
theorem CP.of {S : Nat → Option mO} {kp tk : Option Nat} {zr : Nat → Int} {fr : Nat → Nat → Int} {p e o zs : Int} {fs : Nat → Int} {b : Int} {fa c : Nat → Int} {C : Nat → Nat → Int} {nm : Nat → Int64} {g : Nat → Option Nat} (hxy : x + 196 ≤ y ∧ y + 10 ≤ h.2.1) (hS : Same (kBlk x) h h1) (hK : isK h1 x kp tk zr fr p e o zt ft zs fs b 0 fa c C nm g) (hT : CTR m pool S c C nm g) (hst : stR y h S) (hke : keR y h S kp f4 kpm pool) (htk : tkR y h S kp tk) (hro : roR zr fr rwd rw) (hpa : paR sg zs fs f18 pap) : CP sg x y f4 m kpm pool zt ft f18 pap rwd rw h h1 := by
  have e1 := hS.2.1
  have e2 := hS.2.2.1
  exact ⟨⟨S, kp, tk, zr, fr, p, e, o, zs, fs, b, fa, c, C, nm, g, hK, ⟨hT, hst.kp (Old.of hS) (fun b hb => Or.inl (by unfold kBlk at hb; omega)), hke.kp (Old.of hS) (fun b w e hb => by have := hke.lo e; unfold wBlk at hb; unfold kBlk; omega), htk.kp (Old.of hS) (fun b r e hb => by have := htk.lo e; unfold rBlk at hb; unfold kBlk; omega)⟩, hro, hpa, by omega, by omega⟩, ⟨hS.1, fun b hb => hS.2.2.2 b (by unfold mBlk at hb; unfold kBlk; omega)⟩, by omega, by omega⟩
theorem SO.mm {m' : Nat → Int} (k : SO n f4 m kpm pool zt ft f18 rwd rw) (hA : All m' pool (12000 * (n + 1 : Nat)) (100 * (n + 1 : Nat))) (h8 : m' 8 = m 8) : SO (n + 1) f4 m' kpm pool zt ft f18 rwd rw := by
  obtain ⟨⟨u1, u2⟩, ⟨u3, u4⟩, u5⟩ := k.up
  exact ⟨⟨hA, u2⟩, ⟨u3, fun e => ⟨(u4 e).1, by rw [h8]; exact (u4 e).2⟩⟩, u5⟩
theorem SO.rows {rwd' rw' : Nat → Int} (k : SO n f4 m kpm pool zt ft f18 rwd rw) (hr : (∀ q, InR (rwd' q) ∧ rwd' q ≤ 40) ∧ ∀ q, InR (rw' q)) : SO (n + 1) f4 m kpm pool zt ft f18 rwd' rw' := by
  obtain ⟨u1, u2, u3, u4, -⟩ := k.up
  exact ⟨u1, u2, u3, u4, hr⟩
theorem SO.tape {zt' : Int} {ft' : Nat → Int} (k : SO n f4 m kpm pool zt ft f18 rwd rw) (ht : (0 ≤ zt' ∧ zt' ≤ 120) ∧ bytesOk ft' ∧ ∀ j : Nat, (j : Int) < zt' → 1 ≤ ft' j) : SO (n + 1) f4 m kpm pool zt' ft' f18 rwd rw := by
  obtain ⟨u1, u2, -, u4, u5⟩ := k.up
  exact ⟨u1, u2, ht, u4, u5⟩
theorem roR.put {zr : Nat → Int} {fr : Nat → Nat → Int} {rwd' rw' : Nat → Int} {a : Nat} {z : Int} {f : Nat → Int} (k : roR zr fr rwd rw) (hz : InR z ∧ z ≤ 40) (hf : ∀ q, InR (f q)) (h0 : ∀ q, ¬ q = a → q < 4 → rwd' q = rwd q ∧ ∀ j : Nat, j < 40 → rw' (40 * q + j) = rw (40 * q + j)) (ha : (z = -11 ∧ rwd' a = -1) ∨ (0 ≤ z ∧ z = rwd' a ∧ ∀ j : Nat, (j : Int) < z → f j = rw' (40 * a + j))) : roR (updI zr a z) (updC fr a f) rwd' rw' := by
  refine ⟨⟨fun q => ?_, fun j q => ?_⟩, fun q hq => ?_⟩
  · unfold updI; split
    · exact hz
    · exact k.1.1 q
  · unfold updC; split
    · exact hf q
    · exact k.1.2 j q
  · by_cases e : q = a
    · subst e; rw [updI_s, updC_s]; exact ha
    · rw [updI_n e, updC_n e, (h0 q e hq).1]
      rcases k.2 q hq with r | ⟨r1, r2, r3⟩
      · exact Or.inl r
      · have := (k.1.1 q).2
        exact Or.inr ⟨r1, r2, fun j hj => (r3 j hj).trans ((h0 q e hq).2 j (by omega)).symm⟩
theorem inR_up {f : Nat → Int} (h : ∀ q, InR (f q)) {a : Nat} {v : Int} (hv : InR v) : ∀ q, InR (updI f a v q) := updI_r h hv
end G3
set_option maxHeartbeats 4000000 in
set_option maxRecDepth 100000 in
theorem two_clear {sg : Bool} {G : mG} {l : Launch} (hG : G.2.map Prod.snd = mTy) {x y n0 : Nat} {h : mH} (hn0 : n0 ≤ 600) (hI : RI sg x y n0 h) : TWO sg G l x y n0 false mX10_clear mX11_clear [] h := by
  obtain ⟨f4, m, kpm, pool, zt, ft, f18, pap, rwd, rw, hCH, hMH, hSO, hSZ⟩ := hI
  obtain ⟨S, kp, tk, zr, fr, p, e, o, zs, fs, b, fa, c, C, nm, g, hK, ⟨hT, hst, hke, htk⟩, hro, hpa, hxy⟩ := id hCH
  obtain ⟨⟨hA, hPo⟩, hkp, hta, h18, hrw⟩ := id hSO
  obtain ⟨N, K, T, Z, F, hX⟩ := fx_of hT hA
  obtain ⟨⟨mN, cN, N90⟩, ⟨mK, cK, K1, K60⟩, ⟨mT, cT, T10⟩, ⟨cZ, Z150⟩, ⟨⟨c11, c12, c13⟩, F90, c4⟩, ⟨hO, hpR, hpO, hoO⟩, ⟨c8, c9, L0, L90⟩, ⟨hc, hC⟩, hst2, htp⟩ := id hX
  obtain ⟨⟨hInv, hsc, hnc, hns⟩, hTk, hm7, hm8⟩ := id hA
  have hok := hInv.1
  have hM := hok.1
  have hCR := hT.1
  have hcT := hCR.2.1
  have hcS := hCR.2.2.1
  have hcK := hCR.2.2.2.1
  have hcL := hCR.2.2.2.2.1
  have hst3 : ∀ t : Nat, (t : Int) < m 1 → 0 ≤ m (258 + 14 * t) ∧ m (258 + 14 * t) ≤ 2 := fun t ht => (hst2 t ht).1

  refine TWO.of (dm := 1000) (z := .int (J (zt))) (f4' := f4) (m' := m) (kpm' := kpm) (pool' := pool) (zt' := 0) (ft' := ft) (f18' := f18) (pap' := pap) (rwd' := rwd) (rw' := rw) (Nat.le_of_ble_eq_true rfl) (Nat.le_of_ble_eq_true rfl) ⟨_, rfl⟩ hSZ hMH ((kg_clear 0 hK hc hC).mono (fun v h' q0 => ?_)) (fun h1 hM1 => ?_) ?_
  · obtain ⟨q1, q2, q3⟩ := q0
    exact ⟨q1, CP.of hxy q3 q2 hT hst hke htk hro hpa⟩
  · obtain ⟨f14, f16, was, pln, r14, f8, f9, f10, f11, f12, f13, s, r11, hB⟩ := id hM1
    refine ((m_clear 0 hB).deeper (Nat.le_of_ble_eq_true rfl)).mono (fun v h2 q0 => ?_)
    obtain ⟨q1, q2, q3⟩ := q0
    exact ⟨q1, ⟨f14, f16, was, pln, r14, q2.isMs r11⟩, q3⟩
  · exact hSO.tape ⟨⟨by omega, by omega⟩, hta.2.1, fun j hj => by omega⟩
set_option maxHeartbeats 4000000 in
set_option maxRecDepth 100000 in
theorem two_feed {sg : Bool} {G : mG} {l : Launch} (hG : G.2.map Prod.snd = mTy) {x y n0 : Nat} {h : mH} (hn0 : n0 ≤ 600) (hI : RI sg x y n0 h) {a : Int} (ha : InR a) : TWO sg G l x y n0 false mX10_feed mX11_feed [.int (J a)] h := by
  obtain ⟨f4, m, kpm, pool, zt, ft, f18, pap, rwd, rw, hCH, hMH, hSO, hSZ⟩ := hI
  obtain ⟨S, kp, tk, zr, fr, p, e, o, zs, fs, b, fa, c, C, nm, g, hK, ⟨hT, hst, hke, htk⟩, hro, hpa, hxy⟩ := id hCH
  obtain ⟨⟨hA, hPo⟩, hkp, hta, h18, hrw⟩ := id hSO
  obtain ⟨N, K, T, Z, F, hX⟩ := fx_of hT hA
  obtain ⟨⟨mN, cN, N90⟩, ⟨mK, cK, K1, K60⟩, ⟨mT, cT, T10⟩, ⟨cZ, Z150⟩, ⟨⟨c11, c12, c13⟩, F90, c4⟩, ⟨hO, hpR, hpO, hoO⟩, ⟨c8, c9, L0, L90⟩, ⟨hc, hC⟩, hst2, htp⟩ := id hX
  obtain ⟨⟨hInv, hsc, hnc, hns⟩, hTk, hm7, hm8⟩ := id hA
  have hok := hInv.1
  have hM := hok.1
  have hCR := hT.1
  have hcT := hCR.2.1
  have hcS := hCR.2.2.1
  have hcK := hCR.2.2.2.1
  have hcL := hCR.2.2.2.2.1
  have hst3 : ∀ t : Nat, (t : Int) < m 1 → 0 ≤ m (258 + 14 * t) ∧ m (258 + 14 * t) ≤ 2 := fun t ht => (hst2 t ht).1
  have rzt : InR zt := ⟨by omega, by omega⟩
  by_cases w : 1 ≤ a ∧ a ≤ 127
  · by_cases w2 : zt = 120
    · have ev : feedV zt a = -4 := by unfold feedV; rw [if_pos w, if_pos w2]
      refine TWO.of (dm := 1000) (z := .int (J (-4))) (f4' := f4) (m' := m) (kpm' := kpm) (pool' := pool) (zt' := zt) (ft' := ft) (f18' := f18) (pap' := pap) (rwd' := rwd) (rw' := rw) (Nat.le_of_ble_eq_true rfl) (Nat.le_of_ble_eq_true rfl) ⟨_, rfl⟩ hSZ hMH ((kg_feed 0 hK hc hC ha rzt).mono (fun v h' q0 => ?_)) (fun h1 hM1 => ?_) ?_
      · rcases q0 with ⟨q1, -⟩ | ⟨-, q1, q2, q3⟩
        · exact absurd w q1
        · rw [if_neg (by omega)] at q1 q2
          rw [if_neg (by omega)] at q2
          exact ⟨q1, CP.of hxy q3 q2 hT hst hke htk hro hpa⟩
      · obtain ⟨f14, f16, was, pln, r14, f8, f9, f10, f11, f12, f13, s, r11, hB⟩ := id hM1
        refine ((m_feed 0 hB ha hta.1.1 hta.1.2).deeper (Nat.le_of_ble_eq_true rfl)).mono (fun v h2 q0 => ?_)
        rw [ev] at q0
        rcases q0 with ⟨q1, ⟨-, rfl⟩ | ⟨q2, -⟩⟩
        · exact ⟨q1, hM1, Same.refl⟩
        · exact absurd w2 q2.2
      · exact hSO.up
    · have ev : feedV zt a = zt + 1 := by unfold feedV; rw [if_pos w, if_neg w2]
      refine TWO.of (dm := 1000) (z := .int (J (zt + 1))) (f4' := f4) (m' := m) (kpm' := kpm) (pool' := pool) (zt' := zt + 1) (ft' := updI ft zt.toNat a) (f18' := f18) (pap' := pap) (rwd' := rwd) (rw' := rw) (Nat.le_of_ble_eq_true rfl) (Nat.le_of_ble_eq_true rfl) ⟨_, rfl⟩ hSZ hMH ((kg_feed 0 hK hc hC ha rzt).mono (fun v h' q0 => ?_)) (fun h1 hM1 => ?_) ?_
      · rcases q0 with ⟨q1, -⟩ | ⟨-, q1, q2, q3⟩
        · exact absurd w q1
        · rw [if_pos (by omega)] at q1 q2
          rw [if_pos (by omega)] at q2
          exact ⟨q1, CP.of hxy q3 q2 hT hst hke htk hro hpa⟩
      · obtain ⟨f14, f16, was, pln, r14, f8, f9, f10, f11, f12, f13, s, r11, hB⟩ := id hM1
        refine ((m_feed 0 hB ha hta.1.1 hta.1.2).deeper (Nat.le_of_ble_eq_true rfl)).mono (fun v h2 q0 => ?_)
        rw [ev] at q0
        rcases q0 with ⟨q1, ⟨q2, -⟩ | ⟨-, q2, q3⟩⟩
        · exact absurd ⟨w, w2⟩ q2
        · exact ⟨q1, ⟨f14, f16, was, pln, r14, q2.isMs r11⟩, q3⟩
      · refine hSO.tape ⟨⟨by omega, by omega⟩, fun j => ?_, fun j hj => ?_⟩
        · unfold updI; split
          · omega
          · exact hta.2.1 j
        · by_cases e : j = zt.toNat
          · rw [e, updI_s]; omega
          · rw [updI_n e]; exact hta.2.2 j (by omega)
  · have ev : feedV zt a = -2 := by unfold feedV; rw [if_neg w]
    refine TWO.ask (z := .int (J (-2))) (Nat.le_of_ble_eq_true rfl) (Nat.le_of_ble_eq_true rfl) ⟨_, rfl⟩ hCH hMH hSO hSZ ((kg_feed 0 hK hc hC ha rzt).mono (fun v h' q0 => ?_)) (fun h1 f8 f9 f10 f11 f12 f13 f14 f16 was pln s r14 r11 hB => (m_feed 0 hB ha hta.1.1 hta.1.2).mono (fun v h2 q0 => ?_))
    · rcases q0 with ⟨-, q1, q2⟩ | ⟨q1, -⟩
      · exact ⟨q1, q2⟩
      · exact absurd q1 w
    · rw [ev] at q0
      rcases q0 with ⟨q1, ⟨-, q2⟩ | ⟨q2, -⟩⟩
      · exact ⟨q1, q2⟩
      · exact absurd q2.1 w
set_option maxHeartbeats 4000000 in
set_option maxRecDepth 100000 in
theorem two_open {sg : Bool} {G : mG} {l : Launch} (hG : G.2.map Prod.snd = mTy) {x y n0 : Nat} {h : mH} (hn0 : n0 ≤ 600) (hI : RI sg x y n0 h) {a : Int} (ha : InR a) : TWO sg G l x y n0 false mX10_open mX11_open [.int (J a)] h := by
  obtain ⟨f4, m, kpm, pool, zt, ft, f18, pap, rwd, rw, hCH, hMH, hSO, hSZ⟩ := hI
  obtain ⟨S, kp, tk, zr, fr, p, e, o, zs, fs, b, fa, c, C, nm, g, hK, ⟨hT, hst, hke, htk⟩, hro, hpa, hxy⟩ := id hCH
  obtain ⟨⟨hA, hPo⟩, hkp, hta, h18, hrw⟩ := id hSO
  obtain ⟨N, K, T, Z, F, hX⟩ := fx_of hT hA
  obtain ⟨⟨mN, cN, N90⟩, ⟨mK, cK, K1, K60⟩, ⟨mT, cT, T10⟩, ⟨cZ, Z150⟩, ⟨⟨c11, c12, c13⟩, F90, c4⟩, ⟨hO, hpR, hpO, hoO⟩, ⟨c8, c9, L0, L90⟩, ⟨hc, hC⟩, hst2, htp⟩ := id hX
  obtain ⟨⟨hInv, hsc, hnc, hns⟩, hTk, hm7, hm8⟩ := id hA
  have hok := hInv.1
  have hM := hok.1
  have hCR := hT.1
  have hcT := hCR.2.1
  have hcS := hCR.2.2.1
  have hcK := hCR.2.2.2.1
  have hcL := hCR.2.2.2.2.1
  have hst3 : ∀ t : Nat, (t : Int) < m 1 → 0 ≤ m (258 + 14 * t) ∧ m (258 + 14 * t) ≤ 2 := fun t ht => (hst2 t ht).1
  by_cases w : 0 ≤ a ∧ a ≤ m 0 - 1
  · skip
    obtain ⟨q, rfl⟩ : ∃ q : Nat, a = q := ⟨a.toNat, by omega⟩
    have e18 : ((18 : Int) + 4 * (q : Int)).toNat = 18 + 4 * q := by omega
    have eq : ((q : Int)).toNat = q := by omega
    have s0 : c (304 + 3 * q) = 0 ↔ m (18 + 4 * q) = 0 := by rw [(hcS q (by omega)).1]; exact swT_0 (hsc.2.2 q (by omega)).1
    have hop : openP m (q : Int) ↔ m (18 + 4 * q) = 0 := ⟨fun z => by have := z.2.2; rwa [e18] at this, fun z => ⟨w.1, w.2, by rw [e18]; exact z⟩⟩
    by_cases w2 : m (18 + 4 * q) = 0
    · have w4 := s0.mpr w2
      by_cases w3 : K = 60
      · have ev : openV m q = -4 := by unfold openV; rw [if_pos w, if_pos (hop.mpr w2), if_pos (by omega)]
        refine TWO.ask (z := .int (J (-4))) (Nat.le_of_ble_eq_true rfl) (Nat.le_of_ble_eq_true rfl) ⟨_, rfl⟩ hCH hMH hSO hSZ ((kg_open 0 hK hc hC ha cK cZ Z150).mono (fun v h' q0 => ?_)) (fun h1 f8 f9 f10 f11 f12 f13 f14 f16 was pln s r14 r11 hB => (m_open 0 hB hM mK K60 ha).mono (fun v h2 q0 => ?_))
        · rw [eq] at q0
          rcases q0 with q0 | q0 | q0 | q0
          all_goals first | (exfalso; omega) | exact ⟨q0.2.1, q0.2.2⟩ | exact ⟨q0.2.2.1, q0.2.2.2⟩
        · rw [ev] at q0
          rcases q0 with ⟨q1, q2 | q2⟩
          · exact ⟨q1, q2.2⟩
          · exact absurd q2.1 (by decide)
      · have ev : openV m q = K := by unfold openV; rw [if_pos w, if_pos (hop.mpr w2), if_neg (by omega), mK]
        refine TWO.of (dm := 1000) (z := .int (J ((K : Int)))) (f4' := f4) (m' := opensM m K q (-5)) (kpm' := kpm) (pool' := pool) (zt' := zt) (ft' := ft) (f18' := f18) (pap' := pap) (rwd' := rwd) (rw' := rw) (Nat.le_of_ble_eq_true rfl) (Nat.le_of_ble_eq_true rfl) ⟨_, rfl⟩ hSZ hMH ((kg_open 0 hK hc hC ha cK cZ Z150).mono (fun v h' q0 => ?_)) (fun h1 hM1 => ?_) ?_
        · rw [eq] at q0
          rcases q0 with q0 | q0 | q0 | ⟨-, -, q1, q2, q3⟩
          · exfalso; omega
          · exfalso; omega
          · exfalso; omega
          · exact ⟨q1, CP.of hxy q3 q2 (ctr_open hT hTk hok mK (by omega) K1 (by omega) (by decide) cZ) hst hke htk hro hpa⟩
        · obtain ⟨f14, f16, was, pln, r14, f8, f9, f10, f11, f12, f13, s, r11, hB⟩ := id hM1
          refine ((m_open 0 hB hM mK K60 ha).deeper (Nat.le_of_ble_eq_true rfl)).mono (fun v h2 q0 => ?_)
          rw [ev] at q0
          rcases q0 with ⟨q1, ⟨q2, -⟩ | ⟨-, -, q2, q3⟩⟩
          · omega
          · exact ⟨q1, ⟨f14, f16, was, pln, r14, q2.isMs r11⟩, q3⟩
        · refine hSO.mm ((hA.opens mK (by omega) (by omega) w2 (by decide) (by omega)).up (by omega) (by omega)) ?_
          unfold opensM
          (repeat rw [updI_n (by omega)])
    · have w4 : ¬ c (304 + 3 * q) = 0 := fun z => w2 (s0.mp z)
      have ev : openV m q = -3 := by unfold openV; rw [if_pos w, if_neg (fun z => w2 (hop.mp z))]
      refine TWO.ask (z := .int (J (-3))) (Nat.le_of_ble_eq_true rfl) (Nat.le_of_ble_eq_true rfl) ⟨_, rfl⟩ hCH hMH hSO hSZ ((kg_open 0 hK hc hC ha cK cZ Z150).mono (fun v h' q0 => ?_)) (fun h1 f8 f9 f10 f11 f12 f13 f14 f16 was pln s r14 r11 hB => (m_open 0 hB hM mK K60 ha).mono (fun v h2 q0 => ?_))
      · rw [eq] at q0
        rcases q0 with q0 | q0 | q0 | q0
        all_goals first | (exfalso; omega) | exact ⟨q0.2.1, q0.2.2⟩ | exact ⟨q0.2.2.1, q0.2.2.2⟩
      · rw [ev] at q0
        rcases q0 with ⟨q1, q2 | q2⟩
        · exact ⟨q1, q2.2⟩
        · exact absurd q2.1 (by decide)
  · have ev : openV m a = -1 := by unfold openV; rw [if_neg w]
    refine TWO.ask (z := .int (J (-1))) (Nat.le_of_ble_eq_true rfl) (Nat.le_of_ble_eq_true rfl) ⟨_, rfl⟩ hCH hMH hSO hSZ ((kg_open 0 hK hc hC ha cK cZ Z150).mono (fun v h' q0 => ?_)) (fun h1 f8 f9 f10 f11 f12 f13 f14 f16 was pln s r14 r11 hB => (m_open 0 hB hM mK K60 ha).mono (fun v h2 q0 => ?_))
    · rcases q0 with q0 | q0 | q0 | q0
      all_goals first | (exfalso; omega) | exact ⟨q0.2.1, q0.2.2⟩ | exact ⟨q0.2.2.1, q0.2.2.2⟩
    · rw [ev] at q0
      rcases q0 with ⟨q1, q2 | q2⟩
      · exact ⟨q1, q2.2⟩
      · exact absurd q2.1 (by decide)

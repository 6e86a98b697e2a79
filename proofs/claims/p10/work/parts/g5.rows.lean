/-! ===== rows, on both ===== -/
set_option maxHeartbeats 4000000 in
set_option maxRecDepth 100000 in
theorem two_row {sg : Bool} {G : mG} {l : Launch} (hG : G.2.map Prod.snd = mTy) {x y n0 : Nat} {h : mH} (hn0 : n0 ≤ 600) (hI : RI sg x y n0 h) {a : Int} (ha : InR a) {i : Int} (hi : InR i) : TWO sg G l x y n0 false mX10_row mX11_row [.int (J a), .int (J i)] h := by
  obtain ⟨f4, m, kpm, pool, zt, ft, f18, pap, rwd, rw, hCH, hMH, hSO, hSZ⟩ := hI
  obtain ⟨S, kp, tk, zr, fr, p, e, o, zs, fs, b, fa, c, C, nm, g, hK, ⟨hT, hst, hke, htk⟩, hro, hpa, hxy⟩ := id hCH
  obtain ⟨⟨hA, hPo⟩, hkp, hta, h18, hrw⟩ := id hSO
  obtain ⟨N, K, T, Z, F, hX⟩ := fx_of hT hA
  obtain ⟨⟨mN, cN, N90⟩, ⟨mK, cK, K1, K60⟩, ⟨mT, cT, T10⟩, ⟨cZ, Z150⟩, ⟨⟨c11, c12, c13⟩, F90, c4⟩, ⟨hO, hpR, hpO, hoO⟩, ⟨c8, c9, L0, L90⟩, ⟨hc, hC⟩, hst2, htp⟩ := id hX
  obtain ⟨⟨hInv, hsc, hnc, hns⟩, hTk, hm7, hm8⟩ := id hA
  have hok := hInv.1
  have hM := hok.1
  have hCR := hT.1
  have hcT := hCR.2.1
  have hcS := hCR.2.2.1
  have hcK := hCR.2.2.2.1
  have hcL := hCR.2.2.2.2.1
  have hst3 : ∀ t : Nat, (t : Int) < m 1 → 0 ≤ m (258 + 14 * t) ∧ m (258 + 14 * t) ≤ 2 := fun t ht => (hst2 t ht).1
  by_cases w : 0 ≤ a ∧ a ≤ 3
  · by_cases w2 : 40 < i
    · have ev : rowV a i = -2 := by unfold rowV; rw [if_pos w, if_neg (by omega)]
      have nd : ¬ rowDo a i := fun z => by have := z.2; omega
      refine TWO.ask (z := .int (J (-2))) (Nat.le_of_ble_eq_true rfl) (Nat.le_of_ble_eq_true rfl) ⟨_, rfl⟩ hCH hMH hSO hSZ ((kg_row 0 hK hc hC ha hi (fun q => (hro.1.1 q).1)).mono (fun v h' q0 => ?_)) (fun h1 f8 f9 f10 f11 f12 f13 f14 f16 was pln s r14 r11 hB => (m_row 0 hB ha hi).mono (fun v h2 q0 => ?_))
      · rcases q0 with q0 | q0 | q0 | q0
        all_goals first | (exfalso; omega) | exact ⟨q0.2.1, q0.2.2⟩ | exact ⟨q0.2.2.1, q0.2.2.2⟩
      · rw [ev] at q0
        rcases q0 with ⟨q1, q2 | q2⟩
        · exact ⟨q1, q2.2⟩
        · exact absurd q2.1 nd
    · by_cases w3 : i < 0
      · have ev : rowV a i = -14 := by unfold rowV; rw [if_pos w, if_pos (by omega), if_neg (by omega)]
        have nd : ¬ rowDo a i := fun z => by have := z.2; omega
        refine TWO.ask (z := .int (J (-14))) (Nat.le_of_ble_eq_true rfl) (Nat.le_of_ble_eq_true rfl) ⟨_, rfl⟩ hCH hMH hSO hSZ ((kg_row 0 hK hc hC ha hi (fun q => (hro.1.1 q).1)).mono (fun v h' q0 => ?_)) (fun h1 f8 f9 f10 f11 f12 f13 f14 f16 was pln s r14 r11 hB => (m_row 0 hB ha hi).mono (fun v h2 q0 => ?_))
        · rcases q0 with q0 | q0 | q0 | q0
          all_goals first | (exfalso; omega) | exact ⟨q0.2.1, q0.2.2⟩ | exact ⟨q0.2.2.1, q0.2.2.2⟩
        · rw [ev] at q0
          rcases q0 with ⟨q1, q2 | q2⟩
          · exact ⟨q1, q2.2⟩
          · exact absurd q2.1 nd
      · have ev : rowV a i = 1 := by unfold rowV; rw [if_pos w, if_pos (by omega), if_pos (by omega)]
        have yd : rowDo a i := ⟨w, by omega, by omega⟩
        refine TWO.of (dm := 1000) (z := .int (J (1))) (f4' := f4) (m' := m) (kpm' := kpm) (pool' := pool) (zt' := zt) (ft' := ft) (f18' := f18) (pap' := pap) (rwd' := updI rwd a.toNat i) (rw' := zrF rw (40 * a.toNat) 40) (Nat.le_of_ble_eq_true rfl) (Nat.le_of_ble_eq_true rfl) ⟨_, rfl⟩ hSZ hMH ((kg_row 0 hK hc hC ha hi (fun q => (hro.1.1 q).1)).mono (fun v h' q0 => ?_)) (fun h1 hM1 => ?_) ?_
        · rcases q0 with q0 | q0 | q0 | ⟨-, -, q1, ⟨f2, q2, rfl⟩, q3⟩
          · exfalso; omega
          · exfalso; omega
          · exfalso; omega
          · refine ⟨q1, CP.of hxy q3 q2 hT hst hke htk (hro.put ⟨hi, by omega⟩ (fun q => ?_) (fun q e hq => ⟨updI_n e, fun j hj => ?_⟩) (Or.inr ⟨by omega, updI_s.symm, fun j hj => ?_⟩)) hpa⟩
            · unfold zerF; split
              · decide
              · exact hro.1.2 _ q
            · unfold zrF; rw [if_neg (by omega)]
            · unfold zerF zrF; rw [if_pos (by omega), if_pos (by omega)]
        · obtain ⟨f14, f16, was, pln, r14, f8, f9, f10, f11, f12, f13, s, r11, hB⟩ := id hM1
          refine ((m_row 0 hB ha hi).deeper (Nat.le_of_ble_eq_true rfl)).mono (fun v h2 q0 => ?_)
          rw [ev] at q0
          rcases q0 with ⟨q1, ⟨q2, -⟩ | ⟨-, q2, q3⟩⟩
          · exact absurd yd q2
          · exact ⟨q1, ⟨f14, f16, was, pln, r14, q2.isMs r11⟩, q3⟩
        · refine hSO.rows ⟨fun q => ?_, fun q => ?_⟩
          · unfold updI; split
            · exact ⟨hi, by omega⟩
            · exact hrw.1 q
          · unfold zrF; split
            · decide
            · exact hrw.2 q
  · have ev : rowV a i = -1 := by unfold rowV; rw [if_neg w]
    have nd : ¬ rowDo a i := fun z => w z.1
    refine TWO.ask (z := .int (J (-1))) (Nat.le_of_ble_eq_true rfl) (Nat.le_of_ble_eq_true rfl) ⟨_, rfl⟩ hCH hMH hSO hSZ ((kg_row 0 hK hc hC ha hi (fun q => (hro.1.1 q).1)).mono (fun v h' q0 => ?_)) (fun h1 f8 f9 f10 f11 f12 f13 f14 f16 was pln s r14 r11 hB => (m_row 0 hB ha hi).mono (fun v h2 q0 => ?_))
    · rcases q0 with q0 | q0 | q0 | q0
      all_goals first | (exfalso; omega) | exact ⟨q0.2.1, q0.2.2⟩ | exact ⟨q0.2.2.1, q0.2.2.2⟩
    · rw [ev] at q0
      rcases q0 with ⟨q1, q2 | q2⟩
      · exact ⟨q1, q2.2⟩
      · exact absurd q2.1 nd
set_option maxHeartbeats 4000000 in
set_option maxRecDepth 100000 in
theorem two_set {sg : Bool} {G : mG} {l : Launch} (hG : G.2.map Prod.snd = mTy) {x y n0 : Nat} {h : mH} (hn0 : n0 ≤ 600) (hI : RI sg x y n0 h) {a : Int} (ha : InR a) {i : Int} (hi : InR i) {u : Int} (hu : InR u) : TWO sg G l x y n0 false mX10_set mX11_set [.int (J a), .int (J i), .int (J u)] h := by
  obtain ⟨f4, m, kpm, pool, zt, ft, f18, pap, rwd, rw, hCH, hMH, hSO, hSZ⟩ := hI
  obtain ⟨S, kp, tk, zr, fr, p, e, o, zs, fs, b, fa, c, C, nm, g, hK, ⟨hT, hst, hke, htk⟩, hro, hpa, hxy⟩ := id hCH
  obtain ⟨⟨hA, hPo⟩, hkp, hta, h18, hrw⟩ := id hSO
  obtain ⟨N, K, T, Z, F, hX⟩ := fx_of hT hA
  obtain ⟨⟨mN, cN, N90⟩, ⟨mK, cK, K1, K60⟩, ⟨mT, cT, T10⟩, ⟨cZ, Z150⟩, ⟨⟨c11, c12, c13⟩, F90, c4⟩, ⟨hO, hpR, hpO, hoO⟩, ⟨c8, c9, L0, L90⟩, ⟨hc, hC⟩, hst2, htp⟩ := id hX
  obtain ⟨⟨hInv, hsc, hnc, hns⟩, hTk, hm7, hm8⟩ := id hA
  have hok := hInv.1
  have hM := hok.1
  have hCR := hT.1
  have hcT := hCR.2.1
  have hcS := hCR.2.2.1
  have hcK := hCR.2.2.2.1
  have hcL := hCR.2.2.2.2.1
  have hst3 : ∀ t : Nat, (t : Int) < m 1 → 0 ≤ m (258 + 14 * t) ∧ m (258 + 14 * t) ≤ 2 := fun t ht => (hst2 t ht).1
  have hRo : ∀ q, InR (rwd q) := fun q => (hrw.1 q).1
  have h40 : ∀ q, rwd q ≤ 40 := fun q => (hrw.1 q).2
  by_cases w : 0 ≤ a ∧ a ≤ 3
  · rcases hro.2 a.toNat (by omega) with ⟨r1, r2⟩ | ⟨r1, r2, r3⟩
    · have ev : setV rwd a i = -11 := by
        have e2 : wrongV rwd a = -11 := by unfold wrongV; rw [if_pos w, if_pos (by omega)]
        unfold setV; rw [e2]; rfl
      refine TWO.ask (z := .int (J (-11))) (Nat.le_of_ble_eq_true rfl) (Nat.le_of_ble_eq_true rfl) ⟨_, rfl⟩ hCH hMH hSO hSZ ((kg_set 0 hK hc hC ha hi hu (fun q => (hro.1.1 q).1) hro.1.2).mono (fun v h' q0 => ?_)) (fun h1 f8 f9 f10 f11 f12 f13 f14 f16 was pln s r14 r11 hB => (m_set 0 hB hRo ha hi h40).mono (fun v h2 q0 => ?_))
      · rcases q0 with q0 | q0 | q0 | q0
        all_goals first | (exfalso; omega) | exact ⟨q0.2.1, q0.2.2⟩ | exact ⟨q0.2.2.1, q0.2.2.2⟩
      · rw [ev] at q0
        rcases q0 with ⟨q1, ⟨-, q2⟩ | ⟨q2, -⟩⟩
        · exact ⟨q1, q2⟩
        · exact absurd q2 (by decide)
    · have e2 : wrongV rwd a = 0 := by unfold wrongV; rw [if_pos w, if_neg (by omega)]
      have z40 := (hro.1.1 a.toNat).2
      by_cases w2 : 0 ≤ i ∧ i ≤ rwd a.toNat - 1
      · have ev : setV rwd a i = 1 := by unfold setV; rw [e2, if_pos rfl, if_pos w2]
        have ii : inI 40 (zr a.toNat) i := ⟨by omega, by omega, by omega⟩
        refine TWO.of (dm := 1000) (z := .int (J (1))) (f4' := f4) (m' := m) (kpm' := kpm) (pool' := pool) (zt' := zt) (ft' := ft) (f18' := f18) (pap' := pap) (rwd' := rwd) (rw' := updI rw (40 * a + i).toNat u) (Nat.le_of_ble_eq_true rfl) (Nat.le_of_ble_eq_true rfl) ⟨_, rfl⟩ hSZ hMH ((kg_set 0 hK hc hC ha hi hu (fun q => (hro.1.1 q).1) hro.1.2).mono (fun v h' q0 => ?_)) (fun h1 hM1 => ?_) ?_
        · rcases q0 with q0 | q0 | q0 | ⟨-, -, q1, q2, q3⟩
          · exfalso; omega
          · exfalso; omega
          · exact absurd ii q0.2.1
          · rw [show putF 40 (zr a.toNat) (fr a.toNat) i u = updI (fr a.toNat) i.toNat u by unfold putF; rw [if_pos ii]] at q2
            refine ⟨q1, CP.of hxy q3 q2 hT hst hke htk (hro.put (hro.1.1 _) (inR_up (hro.1.2 _) hu) (fun q e hq => ⟨rfl, fun j hj => updI_n (by omega)⟩) (Or.inr ⟨r1, r2, fun j hj => ?_⟩)) hpa⟩
            by_cases e : j = i.toNat
            · rw [e, updI_s, show (40 * a + i).toNat = 40 * a.toNat + i.toNat by omega, updI_s]
            · rw [updI_n e, updI_n (by omega)]; exact r3 j hj
        · obtain ⟨f14, f16, was, pln, r14, f8, f9, f10, f11, f12, f13, s, r11, hB⟩ := id hM1
          refine ((m_set 0 hB hRo ha hi h40 (e := u)).deeper (Nat.le_of_ble_eq_true rfl)).mono (fun v h2 q0 => ?_)
          rw [ev] at q0
          rcases q0 with ⟨q1, ⟨q2, -⟩ | ⟨-, q2, q3⟩⟩
          · exact absurd rfl q2
          · exact ⟨q1, ⟨f14, f16, was, pln, r14, q2.isMs r11⟩, q3⟩
        · exact hSO.rows ⟨hrw.1, inR_up hrw.2 hu⟩
      · have ev : setV rwd a i = -13 := by unfold setV; rw [e2, if_pos rfl, if_neg w2]
        have ii : ¬ inI 40 (zr a.toNat) i := fun z => w2 (by omega)
        refine TWO.ask (z := .int (J (-13))) (Nat.le_of_ble_eq_true rfl) (Nat.le_of_ble_eq_true rfl) ⟨_, rfl⟩ hCH hMH hSO hSZ ((kg_set 0 hK hc hC ha hi hu (fun q => (hro.1.1 q).1) hro.1.2).mono (fun v h' q0 => ?_)) (fun h1 f8 f9 f10 f11 f12 f13 f14 f16 was pln s r14 r11 hB => (m_set 0 hB hRo ha hi h40).mono (fun v h2 q0 => ?_))
        · rcases q0 with q0 | q0 | q0 | q0
          · exfalso; omega
          · exfalso; omega
          · exact ⟨q0.2.2.1, q0.2.2.2⟩
          · exact absurd q0.2.1 ii
        · rw [ev] at q0
          rcases q0 with ⟨q1, ⟨-, q2⟩ | ⟨q2, -⟩⟩
          · exact ⟨q1, q2⟩
          · exact absurd q2 (by decide)
  · have ev : setV rwd a i = -1 := by
      have e2 : wrongV rwd a = -1 := by unfold wrongV; rw [if_neg w]
      unfold setV; rw [e2]; rfl
    refine TWO.ask (z := .int (J (-1))) (Nat.le_of_ble_eq_true rfl) (Nat.le_of_ble_eq_true rfl) ⟨_, rfl⟩ hCH hMH hSO hSZ ((kg_set 0 hK hc hC ha hi hu (fun q => (hro.1.1 q).1) hro.1.2).mono (fun v h' q0 => ?_)) (fun h1 f8 f9 f10 f11 f12 f13 f14 f16 was pln s r14 r11 hB => (m_set 0 hB hRo ha hi h40).mono (fun v h2 q0 => ?_))
    · rcases q0 with q0 | q0 | q0 | q0
      all_goals first | (exfalso; omega) | exact ⟨q0.2.1, q0.2.2⟩ | exact ⟨q0.2.2.1, q0.2.2.2⟩
    · rw [ev] at q0
      rcases q0 with ⟨q1, ⟨-, q2⟩ | ⟨q2, -⟩⟩
      · exact ⟨q1, q2⟩
      · exact absurd q2 (by decide)
set_option maxHeartbeats 4000000 in
set_option maxRecDepth 100000 in
theorem two_copy {sg : Bool} {G : mG} {l : Launch} (hG : G.2.map Prod.snd = mTy) {x y n0 : Nat} {h : mH} (hn0 : n0 ≤ 600) (hI : RI sg x y n0 h) {a : Int} (ha : InR a) {i : Int} (hi : InR i) {u : Int} (hu : InR u) {t : Int} (ht : InR t) {n : Int} (hn : InR n) : TWO sg G l x y n0 false mX10_copy mX11_copy [.int (J a), .int (J i), .int (J u), .int (J t), .int (J n)] h := by
  obtain ⟨f4, m, kpm, pool, zt, ft, f18, pap, rwd, rw, hCH, hMH, hSO, hSZ⟩ := hI
  obtain ⟨S, kp, tk, zr, fr, p, e, o, zs, fs, b, fa, c, C, nm, g, hK, ⟨hT, hst, hke, htk⟩, hro, hpa, hxy⟩ := id hCH
  obtain ⟨⟨hA, hPo⟩, hkp, hta, h18, hrw⟩ := id hSO
  obtain ⟨N, K, T, Z, F, hX⟩ := fx_of hT hA
  obtain ⟨⟨mN, cN, N90⟩, ⟨mK, cK, K1, K60⟩, ⟨mT, cT, T10⟩, ⟨cZ, Z150⟩, ⟨⟨c11, c12, c13⟩, F90, c4⟩, ⟨hO, hpR, hpO, hoO⟩, ⟨c8, c9, L0, L90⟩, ⟨hc, hC⟩, hst2, htp⟩ := id hX
  obtain ⟨⟨hInv, hsc, hnc, hns⟩, hTk, hm7, hm8⟩ := id hA
  have hok := hInv.1
  have hM := hok.1
  have hCR := hT.1
  have hcT := hCR.2.1
  have hcS := hCR.2.2.1
  have hcK := hCR.2.2.2.1
  have hcL := hCR.2.2.2.2.1
  have hst3 : ∀ t : Nat, (t : Int) < m 1 → 0 ≤ m (258 + 14 * t) ∧ m (258 + 14 * t) ≤ 2 := fun t ht => (hst2 t ht).1
  have hRo : ∀ q, InR (rwd q) := fun q => (hrw.1 q).1
  have h40 : ∀ q, rwd q ≤ 40 := fun q => (hrw.1 q).2
  by_cases w : (0 ≤ a ∧ a ≤ 3) ∧ (0 ≤ u ∧ u ≤ 3)
  · have za := (hro.1.1 a.toNat).2
    have zu := (hro.1.1 u.toNat).2
    by_cases w2 : rwd a.toNat < 0 ∨ rwd u.toNat < 0
    · have ev : copyV rwd a i u t n = -11 := by unfold copyV; rw [if_pos w, if_pos w2]
      have nd : ¬ copyDo rwd a i u t n := fun z => by have := z.2.1; omega
      have nz : ¬ (¬ zr a.toNat = -11 ∧ ¬ zr u.toNat = -11) := by
        rcases hro.2 a.toNat (by omega) with ⟨r1, r2⟩ | ⟨r1, r2, r3⟩
        · exact fun z => z.1 r1
        · rcases hro.2 u.toNat (by omega) with ⟨p1, p2⟩ | ⟨p1, p2, p3⟩
          · exact fun z => z.2 p1
          · omega
      refine TWO.ask (z := .int (J (-11))) (Nat.le_of_ble_eq_true rfl) (Nat.le_of_ble_eq_true rfl) ⟨_, rfl⟩ hCH hMH hSO hSZ ((kg_copy 0 hK hc hC ha hi hu ht hn hro.1.1).mono (fun v h' q0 => ?_)) (fun h1 f8 f9 f10 f11 f12 f13 f14 f16 was pln s r14 r11 hB => (m_copy 0 hB hRo h40 ha hi hu ht hn).mono (fun v h2 q0 => ?_))
      · rcases q0 with q0 | q0 | q0 | q0
        · exfalso; omega
        · exact ⟨q0.2.2.1, q0.2.2.2⟩
        · exact absurd q0.1.2 nz
        · exact absurd q0.1.2 nz
      · rw [ev] at q0
        rcases q0 with ⟨q1, q2 | q2⟩
        · exact ⟨q1, q2.2⟩
        · exact absurd q2.1 nd
    · rcases hro.2 a.toNat (by omega) with ⟨r1, r2⟩ | ⟨r1, r2, r3⟩
      · exfalso; omega
      · rcases hro.2 u.toNat (by omega) with ⟨p1, p2⟩ | ⟨p1, p2, p3⟩
        · exfalso; omega
        · by_cases w3 : n < 0 ∨ i < 0 ∨ t < 0 ∨ rwd a.toNat - i < n ∨ rwd u.toNat - t < n
          · have ev : copyV rwd a i u t n = -13 := by unfold copyV; rw [if_pos w, if_neg w2, if_pos w3]
            have nd : ¬ copyDo rwd a i u t n := fun z => by have := z.2.2; omega
            refine TWO.ask (z := .int (J (-13))) (Nat.le_of_ble_eq_true rfl) (Nat.le_of_ble_eq_true rfl) ⟨_, rfl⟩ hCH hMH hSO hSZ ((kg_copy 0 hK hc hC ha hi hu ht hn hro.1.1).mono (fun v h' q0 => ?_)) (fun h1 f8 f9 f10 f11 f12 f13 f14 f16 was pln s r14 r11 hB => (m_copy 0 hB hRo h40 ha hi hu ht hn).mono (fun v h2 q0 => ?_))
            · rcases q0 with q0 | q0 | q0 | q0
              · exfalso; omega
              · exfalso; omega
              · exact ⟨q0.2.2.1, q0.2.2.2⟩
              · exfalso; omega
            · rw [ev] at q0
              rcases q0 with ⟨q1, q2 | q2⟩
              · exact ⟨q1, q2.2⟩
              · exact absurd q2.1 nd
          · have ev : copyV rwd a i u t n = n := by unfold copyV; rw [if_pos w, if_neg w2, if_neg w3]
            have yd : copyDo rwd a i u t n := ⟨w, ⟨by omega, by omega⟩, by omega, by omega, by omega, by omega, by omega⟩
            refine TWO.of (dm := 1000) (z := .int (J (n))) (f4' := f4) (m' := m) (kpm' := kpm) (pool' := pool) (zt' := zt) (ft' := ft) (f18' := f18) (pap' := pap) (rwd' := rwd) (rw' := cpR rw (40 * a + i).toNat (40 * u + t).toNat 0 n.toNat) (Nat.le_of_ble_eq_true rfl) (Nat.le_of_ble_eq_true rfl) ⟨_, rfl⟩ hSZ hMH ((kg_copy 0 hK hc hC ha hi hu ht hn hro.1.1).mono (fun v h' q0 => ?_)) (fun h1 hM1 => ?_) ?_
            · rcases q0 with q0 | q0 | q0 | ⟨-, -, q1, q2, q3⟩
              · exfalso; omega
              · exfalso; omega
              · exfalso; omega
              · have ro := hro.put (rwd' := rwd) (rw' := cpR rw (40 * a + i).toNat (40 * u + t).toNat 0 n.toNat) (a := u.toNat) (z := zr u.toNat) (f := cpK (fr a.toNat) (fr u.toNat) i.toNat t.toNat n.toNat) (hro.1.1 _) (fun q => by
                  unfold cpK; split
                  · exact hro.1.2 _ _
                  · exact hro.1.2 _ _) (fun q e hq => ⟨rfl, fun j hj => cpR_n (by omega)⟩) (Or.inr ⟨p1, p2, fun j hj => by
                  unfold cpK cpR
                  by_cases z : t.toNat ≤ j ∧ j < t.toNat + n.toNat
                  · rw [if_pos z, if_pos (by omega), r3 (i.toNat + (j - t.toNat)) (by omega)]; congr 1; omega
                  · rw [if_neg z, if_neg (by omega)]; exact p3 j hj⟩)
                rw [updI_id] at ro
                exact ⟨q1, CP.of hxy q3 q2 hT hst hke htk ro hpa⟩
            · obtain ⟨f14, f16, was, pln, r14, f8, f9, f10, f11, f12, f13, s, r11, hB⟩ := id hM1
              refine ((m_copy 0 hB hRo h40 ha hi hu ht hn).deeper (Nat.le_of_ble_eq_true rfl)).mono (fun v h2 q0 => ?_)
              rw [ev] at q0
              rcases q0 with ⟨q1, ⟨q2, -⟩ | ⟨-, q2, q3⟩⟩
              · exact absurd yd q2
              · exact ⟨q1, ⟨f14, f16, was, pln, r14, q2.isMs r11⟩, q3⟩
            · refine hSO.rows ⟨hrw.1, fun q => ?_⟩
              unfold cpR; split
              · exact hrw.2 _
              · exact hrw.2 _
  · have ev : copyV rwd a i u t n = -1 := by unfold copyV; rw [if_neg w]
    have nd : ¬ copyDo rwd a i u t n := fun z => w z.1
    refine TWO.ask (z := .int (J (-1))) (Nat.le_of_ble_eq_true rfl) (Nat.le_of_ble_eq_true rfl) ⟨_, rfl⟩ hCH hMH hSO hSZ ((kg_copy 0 hK hc hC ha hi hu ht hn hro.1.1).mono (fun v h' q0 => ?_)) (fun h1 f8 f9 f10 f11 f12 f13 f14 f16 was pln s r14 r11 hB => (m_copy 0 hB hRo h40 ha hi hu ht hn).mono (fun v h2 q0 => ?_))
    · rcases q0 with q0 | q0 | q0 | q0
      · exact ⟨q0.2.1, q0.2.2⟩
      · exfalso; omega
      · exfalso; omega
      · exfalso; omega
    · rw [ev] at q0
      rcases q0 with ⟨q1, q2 | q2⟩
      · exact ⟨q1, q2.2⟩
      · exact absurd q2.1 nd
set_option maxHeartbeats 4000000 in
set_option maxRecDepth 100000 in
theorem two_lay {sg : Bool} {G : mG} {l : Launch} (hG : G.2.map Prod.snd = mTy) {x y n0 : Nat} {h : mH} (hn0 : n0 ≤ 600) (hI : RI sg x y n0 h) {a : Int} (ha : InR a) {i : Int} (hi : InR i) : TWO sg G l x y n0 false mX10_lay mX11_lay [.int (J a), .int (J i)] h := by
  obtain ⟨f4, m, kpm, pool, zt, ft, f18, pap, rwd, rw, hCH, hMH, hSO, hSZ⟩ := hI
  obtain ⟨S, kp, tk, zr, fr, p, e, o, zs, fs, b, fa, c, C, nm, g, hK, ⟨hT, hst, hke, htk⟩, hro, hpa, hxy⟩ := id hCH
  obtain ⟨⟨hA, hPo⟩, hkp, hta, h18, hrw⟩ := id hSO
  obtain ⟨N, K, T, Z, F, hX⟩ := fx_of hT hA
  obtain ⟨⟨mN, cN, N90⟩, ⟨mK, cK, K1, K60⟩, ⟨mT, cT, T10⟩, ⟨cZ, Z150⟩, ⟨⟨c11, c12, c13⟩, F90, c4⟩, ⟨hO, hpR, hpO, hoO⟩, ⟨c8, c9, L0, L90⟩, ⟨hc, hC⟩, hst2, htp⟩ := id hX
  obtain ⟨⟨hInv, hsc, hnc, hns⟩, hTk, hm7, hm8⟩ := id hA
  have hok := hInv.1
  have hM := hok.1
  have hCR := hT.1
  have hcT := hCR.2.1
  have hcS := hCR.2.2.1
  have hcK := hCR.2.2.2.1
  have hcL := hCR.2.2.2.2.1
  have hst3 : ∀ t : Nat, (t : Int) < m 1 → 0 ≤ m (258 + 14 * t) ∧ m (258 + 14 * t) ≤ 2 := fun t ht => (hst2 t ht).1
  have hRo : ∀ q, InR (rwd q) := fun q => (hrw.1 q).1
  have h40 : ∀ q, rwd q ≤ 40 := fun q => (hrw.1 q).2
  have hz0 : 0 ≤ a ∧ a < 4 → ¬ zr a.toNat = -11 → 0 ≤ zr a.toNat := fun w z => by
    rcases hro.2 a.toNat (by omega) with ⟨r1, r2⟩ | ⟨r1, r2, r3⟩
    · exact absurd r1 z
    · exact r1
  by_cases w : 0 ≤ a ∧ a ≤ 3
  · rcases hro.2 a.toNat (by omega) with ⟨r1, r2⟩ | ⟨r1, r2, r3⟩
    · have e2 : wrongV rwd a = -11 := by unfold wrongV; rw [if_pos w, if_pos (by omega)]
      have ev : layV m rwd a i = -11 := by unfold layV; rw [e2]; rfl
      refine TWO.ask (z := .int (J (-11))) (Nat.le_of_ble_eq_true rfl) (Nat.le_of_ble_eq_true rfl) ⟨_, rfl⟩ hCH hMH hSO hSZ ((kg_lay 0 hK hc hC ha hi hro.1.1 hz0 (c9.trans (show m 2 = ((m 2).toNat : Int) by omega)) (by omega)).mono (fun v h' q0 => ?_)) (fun h1 f8 f9 f10 f11 f12 f13 f14 f16 was pln s r14 r11 hB => (m_lay 0 hB hok hRo h40 ha hi).mono (fun v h2 q0 => ?_))
      · rcases q0 with q0 | q0 | q0
        · exfalso; omega
        · exact ⟨q0.2.2.1, q0.2.2.2⟩
        · exact absurd r1 q0.2.1
      · rw [ev] at q0
        rcases q0 with ⟨q1, ⟨-, q2⟩ | ⟨q2, -⟩⟩
        · exact ⟨q1, q2⟩
        · rw [e2] at q2; exact absurd q2 (by decide)
    · have e2 : wrongV rwd a = 0 := by unfold wrongV; rw [if_pos w, if_neg (by omega)]
      have z40 := (hro.1.1 a.toNat).2
      have el : layN (((m 2).toNat : Nat) : Int) (zr a.toNat) i = layN (m 2) (rwd a.toNat) i := by rw [r2, show (((m 2).toNat : Nat) : Int) = m 2 by omega]
      have lr : layN (m 2) (rwd a.toNat) i ≤ (m 2).toNat ∧ (0 < layN (m 2) (rwd a.toNat) i → 0 ≤ i ∧ i + layN (m 2) (rwd a.toNat) i ≤ rwd a.toNat) := by unfold layN; (repeat' split) <;> omega
      have ev : layV m rwd a i = if layN (m 2) (rwd a.toNat) i < (m 2).toNat then -13 else (layN (m 2) (rwd a.toNat) i : Int) := by
        unfold layV layN
        rw [e2, if_pos rfl]
        (repeat' split) <;> omega
      refine TWO.of (dm := 1000) (z := .int (J (if layN (m 2) (rwd a.toNat) i < (m 2).toNat then -13 else (layN (m 2) (rwd a.toNat) i : Int)))) (f4' := f4) (m' := m) (kpm' := kpm) (pool' := pool) (zt' := zt) (ft' := ft) (f18' := f18) (pap' := pap) (rwd' := rwd) (rw' := layR rw m (40 * a + i).toNat (layN (m 2) (rwd a.toNat) i)) (Nat.le_of_ble_eq_true rfl) (Nat.le_of_ble_eq_true rfl) ⟨_, rfl⟩ hSZ hMH ((kg_lay 0 hK hc hC ha hi hro.1.1 hz0 (c9.trans (show m 2 = ((m 2).toNat : Int) by omega)) (by omega)).mono (fun v h' q0 => ?_)) (fun h1 hM1 => ?_) ?_
      · rcases q0 with q0 | q0 | ⟨-, -, q1, q2, q3⟩
        · exfalso; omega
        · exfalso; omega
        · rw [el] at q1 q2
          have ro := hro.put (rwd' := rwd) (rw' := layR rw m (40 * a + i).toNat (layN (m 2) (rwd a.toNat) i)) (a := a.toNat) (z := zr a.toNat) (f := lyF (fr a.toNat) (C 1) i.toNat (layN (m 2) (rwd a.toNat) i)) (hro.1.1 _) (fun q => by
            unfold lyF; split
            · exact hC 1 _
            · exact hro.1.2 _ _) (fun q e hq => ⟨rfl, fun j hj => by unfold layR; rw [if_neg (by omega)]⟩) (Or.inr ⟨r1, r2, fun j hj => by
            unfold lyF layR
            by_cases z : i.toNat ≤ j ∧ j < i.toNat + layN (m 2) (rwd a.toNat) i
            · rw [if_pos z, if_pos (by omega), hcL.2 (j - i.toNat) (by omega)]; congr 1; omega
            · rw [if_neg z, if_neg (by omega)]; exact r3 j hj⟩)
          rw [updI_id] at ro
          exact ⟨q1, CP.of hxy q3 q2 hT hst hke htk ro hpa⟩
      · obtain ⟨f14, f16, was, pln, r14, f8, f9, f10, f11, f12, f13, s, r11, hB⟩ := id hM1
        refine ((m_lay 0 hB hok hRo h40 ha hi).deeper (Nat.le_of_ble_eq_true rfl)).mono (fun v h2 q0 => ?_)
        rw [ev] at q0
        rcases q0 with ⟨q1, ⟨q2, -⟩ | ⟨-, q2, q3⟩⟩
        · exact absurd e2 q2
        · exact ⟨q1, ⟨f14, f16, was, pln, r14, q2.isMs r11⟩, q3⟩
      · refine hSO.rows ⟨hrw.1, fun q => ?_⟩
        unfold layR; split
        · exact hM _
        · exact hrw.2 _
  · have e2 : wrongV rwd a = -1 := by unfold wrongV; rw [if_neg w]
    have ev : layV m rwd a i = -1 := by unfold layV; rw [e2]; rfl
    refine TWO.ask (z := .int (J (-1))) (Nat.le_of_ble_eq_true rfl) (Nat.le_of_ble_eq_true rfl) ⟨_, rfl⟩ hCH hMH hSO hSZ ((kg_lay 0 hK hc hC ha hi hro.1.1 hz0 (c9.trans (show m 2 = ((m 2).toNat : Int) by omega)) (by omega)).mono (fun v h' q0 => ?_)) (fun h1 f8 f9 f10 f11 f12 f13 f14 f16 was pln s r14 r11 hB => (m_lay 0 hB hok hRo h40 ha hi).mono (fun v h2 q0 => ?_))
    · rcases q0 with q0 | q0 | q0
      · exact ⟨q0.2.1, q0.2.2⟩
      · exfalso; omega
      · exfalso; omega
    · rw [ev] at q0
      rcases q0 with ⟨q1, ⟨-, q2⟩ | ⟨q2, -⟩⟩
      · exact ⟨q1, q2⟩
      · rw [e2] at q2; exact absurd q2 (by decide)
/-- one call on both, whatever each answers -/
def JUD (sg : Bool) (G : mG) (l : Launch) (x y n : Nat) (Mc Mm : mM) (args : List Value) (h : mH) : Prop := RUNM G l 1000 Mc (.ref x :: args) h (fun v h1 => ∃ w, v = some (.int w) ∧ MDL x y h h1 ∧ RUNM G l 1000 Mm (.ref y :: args) h1 (fun v h2 => ∃ w, v = some (.int w) ∧ RI sg x y (n + 1) h2 ∧ h2.1 = h.1 ∧ ∀ q, q < x → hGet h2 q = hGet h q))
set_option maxHeartbeats 4000000 in
set_option maxRecDepth 100000 in
theorem jud_judge {sg : Bool} {G : mG} {l : Launch} (hG : G.2.map Prod.snd = mTy) {x y n0 : Nat} {h : mH} (hn0 : n0 ≤ 600) (hI : RI sg x y n0 h) {a : Int} (ha : InR a) {i : Int} (hi : InR i) : JUD sg G l x y n0 mX10_judge mX11_judge [.int (J a), .int (J i)] h := by
  obtain ⟨f4, m, kpm, pool, zt, ft, f18, pap, rwd, rw, hCH, hMH, hSO, hSZ⟩ := hI
  obtain ⟨S, kp, tk, zr, fr, p, e, o, zs, fs, b, fa, c, C, nm, g, hK, ⟨hT, hst, hke, htk⟩, hro, hpa, hxy⟩ := id hCH
  obtain ⟨⟨hA, hPo⟩, hkp, hta, h18, hrw⟩ := id hSO
  obtain ⟨N, K, T, Z, F, hX⟩ := fx_of hT hA
  obtain ⟨⟨mN, cN, N90⟩, ⟨mK, cK, K1, K60⟩, ⟨mT, cT, T10⟩, ⟨cZ, Z150⟩, ⟨⟨c11, c12, c13⟩, F90, c4⟩, ⟨hO, hpR, hpO, hoO⟩, ⟨c8, c9, L0, L90⟩, ⟨hc, hC⟩, hst2, htp⟩ := id hX
  obtain ⟨⟨hInv, hsc, hnc, hns⟩, hTk, hm7, hm8⟩ := id hA
  have hok := hInv.1
  have hM := hok.1
  have hCR := hT.1
  have hcT := hCR.2.1
  have hcS := hCR.2.2.1
  have hcK := hCR.2.2.2.1
  have hcL := hCR.2.2.2.2.1
  have hst3 : ∀ t : Nat, (t : Int) < m 1 → 0 ≤ m (258 + 14 * t) ∧ m (258 + 14 * t) ≤ 2 := fun t ht => (hst2 t ht).1
  have hRo : ∀ q, InR (rwd q) := fun q => (hrw.1 q).1
  have h40 : ∀ q, rwd q ≤ 40 := fun q => (hrw.1 q).2
  have hz0 : 0 ≤ a ∧ a < 4 → ¬ zr a.toNat = -11 → 0 ≤ zr a.toNat := fun w z => by
    rcases hro.2 a.toNat (by omega) with ⟨r1, r2⟩ | ⟨r1, r2, r3⟩
    · exact absurd r1 z
    · exact r1
  refine ((kg_judge 0 hK hc hC ha hi hro.1.1 hz0 (c9.trans (show m 2 = ((m 2).toNat : Int) by omega)) (by omega) hro.1.2).deeper (Nat.le_of_ble_eq_true rfl)).mono (fun v h1 q0 => ?_)
  obtain ⟨⟨r, q1⟩, rfl⟩ := q0
  refine ⟨_, q1, MDL.rf hMH, ?_⟩
  obtain ⟨f14, f16, was, pln, r14, f8, f9, f10, f11, f12, f13, s, r11, hB⟩ := id hMH
  refine ((m_judge 0 hB hok hRo hrw.2 h40 ha hi).deeper (Nat.le_of_ble_eq_true rfl)).mono (fun v h2 q0 => ?_)
  obtain ⟨⟨r2, -, q2⟩, rfl⟩ := q0
  obtain ⟨z1, z2⟩ := hSZ
  exact ⟨_, q2, ⟨f4, m, kpm, pool, zt, ft, f18, pap, rwd, rw, hCH, hMH, hSO.up, by omega, by omega⟩, rfl, fun _ _ => rfl⟩


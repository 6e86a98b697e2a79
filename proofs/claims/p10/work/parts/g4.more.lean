/-! ===== calls that change a little, on both, more ===== -/
theorem isW.jC {h : mH} {w : Nat} {c : Nat → Int} {C : Nat → Nat → Int} {nm : Nat → Int64} {g : Nat → Option Nat} {f f' : Nat → Int} (k : isW h w c (updC C 0 f) nm g) (e : ∀ q, J (f q) = J (f' q)) : isW h w c (updC C 0 f') nm g := by
  obtain ⟨k0, k1, k2, k3, k4, k5, k6, k7, k8, k9⟩ := k
  refine ⟨k0, k1, k2, k3, k4, k5, fun j hj => ?_, k7, k8, k9⟩
  by_cases z : j = 0
  · subst z
    have y := k6 0 hj
    rw [updC_s] at y ⊢
    obtain ⟨y1, y2, y3⟩ := y
    refine ⟨y1, y2, ?_⟩
    rw [y3]
    congr 3
    exact congrArg (Prod.mk (iRm 0)) (funext e)
  · have y := k6 j hj
    rw [updC_n z] at y ⊢
    exact y
set_option maxHeartbeats 4000000 in
set_option maxRecDepth 100000 in
theorem two_count {sg : Bool} {G : mG} {l : Launch} (hG : G.2.map Prod.snd = mTy) {x y n0 : Nat} {h : mH} (hn0 : n0 ≤ 600) (hI : RI sg x y n0 h) {a : Int} (ha : InR a) {i : Int} (hi : InR i) : TWO sg G l x y n0 false mX10_count mX11_count [.int (J a), .int (J i)] h := by
  obtain ⟨f4, m, kpm, pool, zt, ft, f18, pap, rwd, rw, hCH, hMH, hSO, hSZ⟩ := hI
  obtain ⟨S, kp, tk, zr, fr, p, e, o, zs, fs, b, fa, c, C, nm, g, hK, ⟨hT, hst, hke, htk⟩, hro, hpa, hxy⟩ := id hCH
  obtain ⟨⟨hA, hPo⟩, hkp, hta, h18, hrw⟩ := id hSO
  obtain ⟨N, K, T, Z, F, hX⟩ := fx_of hT hA
  obtain ⟨⟨mN, cN, N90⟩, ⟨mK, cK, K1, K60⟩, ⟨mT, cT, T10⟩, ⟨cZ, Z150⟩, ⟨⟨c11, c12, c13⟩, F90, c4⟩, ⟨hO, hpR, hpO, hoO⟩, ⟨c8, c9, L0, L90⟩, ⟨hc, hC⟩, hst2, htp⟩ := id hX
  obtain ⟨⟨hInv, hsc, hnc, hns⟩, hTk, hm7, hm8⟩ := id hA
  have hok := hInv.1
  have hM := hok.1
  have hCR := hT.1
  have hcT := hCR.2.1
  have hcS := hCR.2.2.1
  have hcK := hCR.2.2.2.1
  have hcL := hCR.2.2.2.2.1
  have hst3 : ∀ t : Nat, (t : Int) < m 1 → 0 ≤ m (258 + 14 * t) ∧ m (258 + 14 * t) ≤ 2 := fun t ht => (hst2 t ht).1
  by_cases w : 0 ≤ a ∧ a ≤ 7
  · obtain ⟨q, rfl⟩ : ∃ q : Nat, a = q := ⟨a.toNat, by omega⟩
    have e10 : ((10 : Int) + (q : Int)).toNat = 10 + q := by omega
    have e0 : atF 8 (c 8) (C 0) (q : Int) = m (10 + q) := by
      unfold atF; rw [if_pos ⟨by omega, by omega, by omega⟩, show ((q : Int)).toNat = q by omega]; exact hcL.1 q (by omega)
    have e1 : putF 8 (c 8) (C 0) (q : Int) (m (10 + q) + i) = updI (C 0) q (m (10 + q) + i) := by
      unfold putF; rw [if_pos ⟨by omega, by omega, by omega⟩, show ((q : Int)).toNat = q by omega]
    have e2 : atF 8 (c 8) (updI (C 0) q (m (10 + q) + i)) (q : Int) = m (10 + q) + i := by
      unfold atF; rw [if_pos ⟨by omega, by omega, by omega⟩, show ((q : Int)).toNat = q by omega, updI_s]
    have ev : countV m q i = wrap (m (10 + q) + i) := by unfold countV; rw [if_pos w, e10]
    refine TWO.of (dm := 1000) (z := .int (J (m (10 + q) + i))) (f4' := f4) (m' := updI m (10 + q) (wrap (m (10 + q) + i))) (kpm' := kpm) (pool' := pool) (zt' := zt) (ft' := ft) (f18' := f18) (pap' := pap) (rwd' := rwd) (rw' := rw) (Nat.le_of_ble_eq_true rfl) (Nat.le_of_ble_eq_true rfl) ⟨_, rfl⟩ hSZ hMH ((kg_count 0 hK hc hC ha hi c8).mono (fun v h' q0 => ?_)) (fun h1 hM1 => ?_) ?_
    · rcases q0 with q0 | ⟨-, q1, q2, q3⟩
      · exfalso; omega
      · rw [e0, e1] at q1 q2
        rw [e2] at q1
        rw [show (8 : Nat) + 0 = 8 from rfl, updI_id] at q2
        have W2 := isW.jC (f' := updI (C 0) q (wrap (m (10 + q) + i))) q2.w (fun j => by
          unfold updI; split
          · exact J_wrap _
          · rfl)
        exact ⟨q1, CP.of hxy q3 (q2.ofW Same.refl W2) (ctr_count hT hTk hok (by omega) (wrap_r _)) hst hke htk hro hpa⟩
    · obtain ⟨f14, f16, was, pln, r14, f8, f9, f10, f11, f12, f13, s, r11, hB⟩ := id hM1
      refine ((m_count 0 hB ha).deeper (Nat.le_of_ble_eq_true rfl)).mono (fun v h2 q0 => ?_)
      rw [ev, e10, ← J_wrap] at q0
      rcases q0 with ⟨q1, q2 | ⟨-, q2, q3⟩⟩
      · exfalso; omega
      · exact ⟨q1, ⟨f14, f16, was, pln, r14, q2.isMs r11⟩, q3⟩
    · exact hSO.mm ((hA.low (k := 10 + q) (wrap_r _) (Or.inl ⟨by omega, by omega⟩)).up (by omega) (by omega)) (updI_n (by omega))
  · have ev : countV m a i = -1 := by unfold countV; rw [if_neg w]
    refine TWO.ask (z := .int (J (-1))) (Nat.le_of_ble_eq_true rfl) (Nat.le_of_ble_eq_true rfl) ⟨_, rfl⟩ hCH hMH hSO hSZ ((kg_count 0 hK hc hC ha hi c8).mono (fun v h' q0 => ?_)) (fun h1 f8 f9 f10 f11 f12 f13 f14 f16 was pln s r14 r11 hB => (m_count 0 hB ha).mono (fun v h2 q0 => ?_))
    · rcases q0 with q0 | q0
      all_goals first | (exfalso; omega) | exact ⟨q0.2.1, q0.2.2⟩ | exact ⟨q0.2.2.1, q0.2.2.2⟩
    · rw [ev] at q0
      rcases q0 with ⟨q1, q2 | q2⟩
      · exact ⟨q1, q2.2⟩
      · exact absurd q2.1 w
set_option maxHeartbeats 4000000 in
set_option maxRecDepth 100000 in
theorem two_cancel {sg : Bool} {G : mG} {l : Launch} (hG : G.2.map Prod.snd = mTy) {x y n0 : Nat} {h : mH} (hn0 : n0 ≤ 600) (hI : RI sg x y n0 h) {a : Int} (ha : InR a) : TWO sg G l x y n0 false mX10_cancel mX11_cancel [.int (J a)] h := by
  obtain ⟨f4, m, kpm, pool, zt, ft, f18, pap, rwd, rw, hCH, hMH, hSO, hSZ⟩ := hI
  obtain ⟨S, kp, tk, zr, fr, p, e, o, zs, fs, b, fa, c, C, nm, g, hK, ⟨hT, hst, hke, htk⟩, hro, hpa, hxy⟩ := id hCH
  obtain ⟨⟨hA, hPo⟩, hkp, hta, h18, hrw⟩ := id hSO
  obtain ⟨N, K, T, Z, F, hX⟩ := fx_of hT hA
  obtain ⟨⟨mN, cN, N90⟩, ⟨mK, cK, K1, K60⟩, ⟨mT, cT, T10⟩, ⟨cZ, Z150⟩, ⟨⟨c11, c12, c13⟩, F90, c4⟩, ⟨hO, hpR, hpO, hoO⟩, ⟨c8, c9, L0, L90⟩, ⟨hc, hC⟩, hst2, htp⟩ := id hX
  obtain ⟨⟨hInv, hsc, hnc, hns⟩, hTk, hm7, hm8⟩ := id hA
  have hok := hInv.1
  have hM := hok.1
  have hCR := hT.1
  have hcT := hCR.2.1
  have hcS := hCR.2.2.1
  have hcK := hCR.2.2.2.1
  have hcL := hCR.2.2.2.2.1
  have hst3 : ∀ t : Nat, (t : Int) < m 1 → 0 ≤ m (258 + 14 * t) ∧ m (258 + 14 * t) ≤ 2 := fun t ht => (hst2 t ht).1
  have h3 := hok.2.2.2.2.1
  by_cases w : 0 ≤ a ∧ a ≤ m 3 - 1
  · skip
    obtain ⟨q, rfl⟩ : ∃ q : Nat, a = q := ⟨a.toNat, by omega⟩
    have eq : ((q : Int)).toNat = q := by omega
    have e10 : ((1610 : Int) + 72 * (q : Int)).toNat = 1610 + 72 * q := by omega
    have e14 : ((1614 : Int) + 72 * (q : Int)).toNat = 1614 + 72 * q := by omega
    have e09 : ((1609 : Int) + 72 * (q : Int)).toNat = 1609 + 72 * q := by omega
    have tkq := (hTk.2 q (by omega)).1
    have k0 := hcK q (by omega)
    have k1 := (hT.2.2 q (by omega)).1
    by_cases w2 : m (1610 + 72 * q) = 0
    · have ev : cancelV m q = 1 - m (1614 + 72 * q) := by unfold cancelV; rw [if_pos w, e10, if_pos w2, e14]
      have cd : canDo m q := ⟨w, by rw [e10]; exact w2⟩
      have ec : (if c (496 + 9 * q) = 0 then (1 : Int) else 0) = 1 - m (1614 + 72 * q) := by
        rw [k0.2]
        rcases tkq.2.2.1 with z | z
        · rw [if_pos z, z]; decide
        · rw [if_neg (by omega), z]; decide
      refine TWO.of (dm := 1000) (z := .int (J (1 - m (1614 + 72 * q)))) (f4' := f4) (m' := updI m (1614 + 72 * q) 1) (kpm' := kpm) (pool' := pool) (zt' := zt) (ft' := ft) (f18' := f18) (pap' := pap) (rwd' := rwd) (rw' := rw) (Nat.le_of_ble_eq_true rfl) (Nat.le_of_ble_eq_true rfl) ⟨_, rfl⟩ hSZ hMH ((kg_cancel 0 hK hc hC ha).mono (fun v h' q0 => ?_)) (fun h1 hM1 => ?_) ?_
      · rw [eq] at q0
        rcases q0 with q0 | q0 | ⟨-, q1, q2, q3⟩
        · exfalso; omega
        · exfalso; omega
        · rw [ec] at q1
          exact ⟨q1, CP.of hxy q3 q2 (ctr_cancel hT hTk hok (by omega)) hst hke htk hro hpa⟩
      · obtain ⟨f14, f16, was, pln, r14, f8, f9, f10, f11, f12, f13, s, r11, hB⟩ := id hM1
        refine ((m_cancel 0 hB hM h3 ha).deeper (Nat.le_of_ble_eq_true rfl)).mono (fun v h2 q0 => ?_)
        rw [ev, e14] at q0
        rcases q0 with ⟨q1, ⟨q2, -⟩ | ⟨-, q2, q3⟩⟩
        · exact absurd cd q2
        · exact ⟨q1, ⟨f14, f16, was, pln, r14, q2.isMs r11⟩, q3⟩
      · exact hSO.mm ((hA.task (k := 1614 + 72 * q) (t := q) (v := 1) (by decide) (by omega) (Or.inl ⟨rfl, rfl⟩)).up (by omega) (by omega)) (updI_n (by omega))
    · have ev : cancelV m q = -3 := by unfold cancelV; rw [if_pos w, e10, if_neg w2]
      have cd : ¬ canDo m q := fun z => w2 (by have := z.2; rwa [e10] at this)
      refine TWO.ask (z := .int (J (-3))) (Nat.le_of_ble_eq_true rfl) (Nat.le_of_ble_eq_true rfl) ⟨_, rfl⟩ hCH hMH hSO hSZ ((kg_cancel 0 hK hc hC ha).mono (fun v h' q0 => ?_)) (fun h1 f8 f9 f10 f11 f12 f13 f14 f16 was pln s r14 r11 hB => (m_cancel 0 hB hM h3 ha).mono (fun v h2 q0 => ?_))
      · rw [eq] at q0
        rcases q0 with q0 | q0 | q0
        all_goals first | (exfalso; omega) | exact ⟨q0.2.1, q0.2.2⟩ | exact ⟨q0.2.2.1, q0.2.2.2⟩
      · rw [ev] at q0
        rcases q0 with ⟨q1, q2 | q2⟩
        · exact ⟨q1, q2.2⟩
        · exact absurd q2.1 cd
  · have ev : cancelV m a = -1 := by unfold cancelV; rw [if_neg w]
    have cd : ¬ canDo m a := fun z => w z.1
    refine TWO.ask (z := .int (J (-1))) (Nat.le_of_ble_eq_true rfl) (Nat.le_of_ble_eq_true rfl) ⟨_, rfl⟩ hCH hMH hSO hSZ ((kg_cancel 0 hK hc hC ha).mono (fun v h' q0 => ?_)) (fun h1 f8 f9 f10 f11 f12 f13 f14 f16 was pln s r14 r11 hB => (m_cancel 0 hB hM h3 ha).mono (fun v h2 q0 => ?_))
    · rcases q0 with q0 | q0 | q0
      all_goals first | (exfalso; omega) | exact ⟨q0.2.1, q0.2.2⟩ | exact ⟨q0.2.2.1, q0.2.2.2⟩
    · rw [ev] at q0
      rcases q0 with ⟨q1, q2 | q2⟩
      · exact ⟨q1, q2.2⟩
      · exact absurd q2.1 cd
set_option maxHeartbeats 4000000 in
set_option maxRecDepth 100000 in
theorem two_rank {sg : Bool} {G : mG} {l : Launch} (hG : G.2.map Prod.snd = mTy) {x y n0 : Nat} {h : mH} (hn0 : n0 ≤ 600) (hI : RI sg x y n0 h) {a : Int} (ha : InR a) {i : Int} (hi : InR i) : TWO sg G l x y n0 false mX10_rank mX11_rank [.int (J a), .int (J i)] h := by
  obtain ⟨f4, m, kpm, pool, zt, ft, f18, pap, rwd, rw, hCH, hMH, hSO, hSZ⟩ := hI
  obtain ⟨S, kp, tk, zr, fr, p, e, o, zs, fs, b, fa, c, C, nm, g, hK, ⟨hT, hst, hke, htk⟩, hro, hpa, hxy⟩ := id hCH
  obtain ⟨⟨hA, hPo⟩, hkp, hta, h18, hrw⟩ := id hSO
  obtain ⟨N, K, T, Z, F, hX⟩ := fx_of hT hA
  obtain ⟨⟨mN, cN, N90⟩, ⟨mK, cK, K1, K60⟩, ⟨mT, cT, T10⟩, ⟨cZ, Z150⟩, ⟨⟨c11, c12, c13⟩, F90, c4⟩, ⟨hO, hpR, hpO, hoO⟩, ⟨c8, c9, L0, L90⟩, ⟨hc, hC⟩, hst2, htp⟩ := id hX
  obtain ⟨⟨hInv, hsc, hnc, hns⟩, hTk, hm7, hm8⟩ := id hA
  have hok := hInv.1
  have hM := hok.1
  have hCR := hT.1
  have hcT := hCR.2.1
  have hcS := hCR.2.2.1
  have hcK := hCR.2.2.2.1
  have hcL := hCR.2.2.2.2.1
  have hst3 : ∀ t : Nat, (t : Int) < m 1 → 0 ≤ m (258 + 14 * t) ∧ m (258 + 14 * t) ≤ 2 := fun t ht => (hst2 t ht).1
  have h3 := hok.2.2.2.2.1
  by_cases w : 0 ≤ a ∧ a ≤ m 3 - 1
  · skip
    obtain ⟨q, rfl⟩ : ∃ q : Nat, a = q := ⟨a.toNat, by omega⟩
    have eq : ((q : Int)).toNat = q := by omega
    have e10 : ((1610 : Int) + 72 * (q : Int)).toNat = 1610 + 72 * q := by omega
    have e14 : ((1614 : Int) + 72 * (q : Int)).toNat = 1614 + 72 * q := by omega
    have e09 : ((1609 : Int) + 72 * (q : Int)).toNat = 1609 + 72 * q := by omega
    have tkq := (hTk.2 q (by omega)).1
    have k0 := hcK q (by omega)
    have k1 := (hT.2.2 q (by omega)).1
    by_cases w5 : -99 ≤ i ∧ i ≤ 99
    · by_cases w2 : m (1610 + 72 * q) = 0
      · have ev : rankV m q i = m (1609 + 72 * q) + 100 := by unfold rankV; rw [if_pos w, if_pos w5, e10, if_pos w2, e09]
        have cd : rankDo m q i := ⟨⟨w, by rw [e10]; exact w2⟩, w5⟩
        have ec : c (490 + 9 * q) = m (1609 + 72 * q) := k1.2.1
        refine TWO.of (dm := 1000) (z := .int (J (m (1609 + 72 * q) + 100))) (f4' := f4) (m' := updI m (1609 + 72 * q) i) (kpm' := kpm) (pool' := pool) (zt' := zt) (ft' := ft) (f18' := f18) (pap' := pap) (rwd' := rwd) (rw' := rw) (Nat.le_of_ble_eq_true rfl) (Nat.le_of_ble_eq_true rfl) ⟨_, rfl⟩ hSZ hMH ((kg_rank 0 hK hc hC ha hi).mono (fun v h' q0 => ?_)) (fun h1 hM1 => ?_) ?_
        · rw [eq, ec] at q0
          rcases q0 with q0 | q0 | q0 | ⟨-, -, q1, q2, q3⟩
          · exfalso; omega
          · exfalso; omega
          · exfalso; omega
          · exact ⟨q1, CP.of hxy q3 q2 (ctr_rank hT hTk hok (by omega) hi) hst hke htk hro hpa⟩
        · obtain ⟨f14, f16, was, pln, r14, f8, f9, f10, f11, f12, f13, s, r11, hB⟩ := id hM1
          refine ((m_rank 0 hB hM h3 ha hi).deeper (Nat.le_of_ble_eq_true rfl)).mono (fun v h2 q0 => ?_)
          rw [ev, e09] at q0
          rcases q0 with ⟨q1, ⟨q2, -⟩ | ⟨-, q2, q3⟩⟩
          · exact absurd cd q2
          · exact ⟨q1, ⟨f14, f16, was, pln, r14, q2.isMs r11⟩, q3⟩
        · exact hSO.mm ((hA.task (k := 1609 + 72 * q) (t := q) (v := i) hi (by omega) (Or.inr ⟨rfl, w5.1, w5.2⟩)).up (by omega) (by omega)) (updI_n (by omega))
      · have ev : rankV m q i = -3 := by unfold rankV; rw [if_pos w, if_pos w5, e10, if_neg w2]
        have cd : ¬ rankDo m q i := fun z => w2 (by have := z.1.2; rwa [e10] at this)
        refine TWO.ask (z := .int (J (-3))) (Nat.le_of_ble_eq_true rfl) (Nat.le_of_ble_eq_true rfl) ⟨_, rfl⟩ hCH hMH hSO hSZ ((kg_rank 0 hK hc hC ha hi).mono (fun v h' q0 => ?_)) (fun h1 f8 f9 f10 f11 f12 f13 f14 f16 was pln s r14 r11 hB => (m_rank 0 hB hM h3 ha hi).mono (fun v h2 q0 => ?_))
        · rw [eq] at q0
          rcases q0 with q0 | q0 | q0 | q0
          all_goals first | (exfalso; omega) | exact ⟨q0.2.1, q0.2.2⟩ | exact ⟨q0.2.2.1, q0.2.2.2⟩
        · rw [ev] at q0
          rcases q0 with ⟨q1, q2 | q2⟩
          · exact ⟨q1, q2.2⟩
          · exact absurd q2.1 cd
    · have ev : rankV m q i = -2 := by unfold rankV; rw [if_pos w, if_neg w5]
      have cd : ¬ rankDo m q i := fun z => w5 z.2
      refine TWO.ask (z := .int (J (-2))) (Nat.le_of_ble_eq_true rfl) (Nat.le_of_ble_eq_true rfl) ⟨_, rfl⟩ hCH hMH hSO hSZ ((kg_rank 0 hK hc hC ha hi).mono (fun v h' q0 => ?_)) (fun h1 f8 f9 f10 f11 f12 f13 f14 f16 was pln s r14 r11 hB => (m_rank 0 hB hM h3 ha hi).mono (fun v h2 q0 => ?_))
      · rw [eq] at q0
        rcases q0 with q0 | q0 | q0 | q0
        all_goals first | (exfalso; omega) | exact ⟨q0.2.1, q0.2.2⟩ | exact ⟨q0.2.2.1, q0.2.2.2⟩
      · rw [ev] at q0
        rcases q0 with ⟨q1, q2 | q2⟩
        · exact ⟨q1, q2.2⟩
        · exact absurd q2.1 cd
  · have ev : rankV m a i = -1 := by unfold rankV; rw [if_neg w]
    have cd : ¬ rankDo m a i := fun z => w z.1.1
    refine TWO.ask (z := .int (J (-1))) (Nat.le_of_ble_eq_true rfl) (Nat.le_of_ble_eq_true rfl) ⟨_, rfl⟩ hCH hMH hSO hSZ ((kg_rank 0 hK hc hC ha hi).mono (fun v h' q0 => ?_)) (fun h1 f8 f9 f10 f11 f12 f13 f14 f16 was pln s r14 r11 hB => (m_rank 0 hB hM h3 ha hi).mono (fun v h2 q0 => ?_))
    · rcases q0 with q0 | q0 | q0 | q0
      all_goals first | (exfalso; omega) | exact ⟨q0.2.1, q0.2.2⟩ | exact ⟨q0.2.2.1, q0.2.2.2⟩
    · rw [ev] at q0
      rcases q0 with ⟨q1, q2 | q2⟩
      · exact ⟨q1, q2.2⟩
      · exact absurd q2.1 cd
set_option maxHeartbeats 4000000 in
set_option maxRecDepth 100000 in
theorem two_move {sg : Bool} {G : mG} {l : Launch} (hG : G.2.map Prod.snd = mTy) {x y n0 : Nat} {h : mH} (hn0 : n0 ≤ 600) (hI : RI sg x y n0 h) {a : Int} (ha : InR a) {i : Int} (hi : InR i) : TWO sg G l x y n0 false mX10_move mX11_move [.int (J a), .int (J i)] h := by
  obtain ⟨f4, m, kpm, pool, zt, ft, f18, pap, rwd, rw, hCH, hMH, hSO, hSZ⟩ := hI
  obtain ⟨S, kp, tk, zr, fr, p, e, o, zs, fs, b, fa, c, C, nm, g, hK, ⟨hT, hst, hke, htk⟩, hro, hpa, hxy⟩ := id hCH
  obtain ⟨⟨hA, hPo⟩, hkp, hta, h18, hrw⟩ := id hSO
  obtain ⟨N, K, T, Z, F, hX⟩ := fx_of hT hA
  obtain ⟨⟨mN, cN, N90⟩, ⟨mK, cK, K1, K60⟩, ⟨mT, cT, T10⟩, ⟨cZ, Z150⟩, ⟨⟨c11, c12, c13⟩, F90, c4⟩, ⟨hO, hpR, hpO, hoO⟩, ⟨c8, c9, L0, L90⟩, ⟨hc, hC⟩, hst2, htp⟩ := id hX
  obtain ⟨⟨hInv, hsc, hnc, hns⟩, hTk, hm7, hm8⟩ := id hA
  have hok := hInv.1
  have hM := hok.1
  have hCR := hT.1
  have hcT := hCR.2.1
  have hcS := hCR.2.2.1
  have hcK := hCR.2.2.2.1
  have hcL := hCR.2.2.2.2.1
  have hst3 : ∀ t : Nat, (t : Int) < m 1 → 0 ≤ m (258 + 14 * t) ∧ m (258 + 14 * t) ≤ 2 := fun t ht => (hst2 t ht).1
  have h6 : InR (m 6 + 1) := by
    have := hInv.2.2.2.2.1
    exact ⟨by omega, by omega⟩
  by_cases w : (0 ≤ a ∧ a ≤ m 1 - 1) ∧ (0 ≤ i ∧ i ≤ m 0 - 1)
  · obtain ⟨q, rfl⟩ : ∃ q : Nat, a = q := ⟨a.toNat, by omega⟩
    obtain ⟨u, rfl⟩ : ∃ u : Nat, i = u := ⟨i.toNat, by omega⟩
    have eq : ((q : Int)).toNat = q := by omega
    have eu : ((u : Int)).toNat = u := by omega
    have e18 : ((18 : Int) + 4 * (u : Int)).toNat = 18 + 4 * u := by omega
    have e58 : ((258 : Int) + 14 * (q : Int)).toNat = 258 + 14 * q := by omega
    have s0 : c (304 + 3 * u) = 0 ↔ m (18 + 4 * u) = 0 := by rw [(hcS u (by omega)).1]; exact swT_0 (hsc.2.2 u (by omega)).1
    have t0 : c (32 + 3 * q) = 0 ↔ m (258 + 14 * q) = 0 := by rw [(hcT q (by omega)).1]; exact swT_0 (hst3 q (by omega))
    have hop : openP m (u : Int) ↔ m (18 + 4 * u) = 0 := ⟨fun z => by have := z.2.2; rwa [e18] at this, fun z => ⟨w.2.1, w.2.2, by rw [e18]; exact z⟩⟩
    by_cases w2 : m (258 + 14 * q) = 0 ∧ m (18 + 4 * u) = 0
    · have md : moveDo m q u := ⟨w.1, by rw [e58]; exact w2.1, hop.mpr w2.2⟩
      have ev : moveV m N K q u = entsN (movesM m q u) u N K := by unfold moveV; rw [if_pos w, if_pos ⟨by rw [e58]; exact w2.1, hop.mpr w2.2⟩, eq]
      have t1 := t0.mpr w2.1
      have s1 := s0.mpr w2.2
      obtain ⟨hA2, h82⟩ := all_move hA (by omega) md
      rw [eq] at hA2 h82
      have hT2 := ctr_move hT hTk hok (t := q) (s := (u : Int)) (by omega) w2.1 ⟨by omega, by omega⟩ cZ
      have cn0 := cnt_r (p := notB (q : Int) (C 2)) Z
      have e0 : movesM m q u 0 = m 0 := by unfold movesM; (repeat rw [updI_n (by omega)])
      have e1 : movesM m q u 1 = m 1 := by unfold movesM; (repeat rw [updI_n (by omega)])
      have ec : cnt (enB (mvC c q u (cnt (notB (q : Int) (C 2)) Z)) (mvD C Z q 2) u) ((cnt (notB (q : Int) (C 2)) Z).toNat + 1) = entsN (movesM m q u) u N K := by
        obtain ⟨⟨i1, i2, i3, i4⟩, -⟩ := hA2
        exact en_eq hT2.1 i1.1 i2 i3 (fun t ht => (i1.2.2.1 t ht).1) w.2.1 (by unfold mvC; rw [updI_s]; omega) (e1.trans mN) (e0.trans mK)
      refine TWO.of (dm := 1000) (z := .int (J (entsN (movesM m q u) u N K))) (f4' := f4) (m' := movesM m q u) (kpm' := kpm) (pool' := pool) (zt' := zt) (ft' := ft) (f18' := f18) (pap' := pap) (rwd' := rwd) (rw' := rw) (Nat.le_of_ble_eq_true rfl) (Nat.le_of_ble_eq_true rfl) ⟨_, rfl⟩ hSZ hMH ((kg_move 0 hK hc hC ha hi cZ Z150).mono (fun v h' q0 => ?_)) (fun h1 hM1 => ?_) ?_
      · rw [eq, eu, ec] at q0
        rcases q0 with q0 | q0 | ⟨-, -, q1, q2, q3⟩
        · exfalso; omega
        · exfalso; omega
        · exact ⟨q1, CP.of hxy q3 q2 hT2 hst hke htk hro hpa⟩
      · obtain ⟨f14, f16, was, pln, r14, f8, f9, f10, f11, f12, f13, s, r11, hB⟩ := id hM1
        refine ((m_move 0 hB hM mN N90 mK K1 K60 h6 ha hi).deeper (Nat.le_of_ble_eq_true rfl)).mono (fun v h2 q0 => ?_)
        rw [ev, eq] at q0
        rcases q0 with ⟨q1, ⟨q2, -⟩ | ⟨-, q2, q3⟩⟩
        · exact absurd md q2
        · exact ⟨q1, ⟨f14, f16, was, pln, r14, q2.isMs r11⟩, q3⟩
      · exact hSO.mm (hA2.up (by omega) (by omega)) h82
    · have md : ¬ moveDo m q u := fun z => w2 ⟨by have := z.2.1; rwa [e58] at this, hop.mp z.2.2⟩
      have ev : moveV m N K q u = -3 := by unfold moveV; rw [if_pos w, if_neg (fun z => w2 ⟨by have := z.1; rwa [e58] at this, hop.mp z.2⟩)]
      refine TWO.ask (z := .int (J (-3))) (Nat.le_of_ble_eq_true rfl) (Nat.le_of_ble_eq_true rfl) ⟨_, rfl⟩ hCH hMH hSO hSZ ((kg_move 0 hK hc hC ha hi cZ Z150).mono (fun v h' q0 => ?_)) (fun h1 f8 f9 f10 f11 f12 f13 f14 f16 was pln s r14 r11 hB => (m_move 0 hB hM mN N90 mK K1 K60 h6 ha hi).mono (fun v h2 q0 => ?_))
      · rw [eq, eu] at q0
        rcases q0 with q0 | q0 | q0
        all_goals first | (exfalso; omega) | exact ⟨q0.2.1, q0.2.2⟩ | exact ⟨q0.2.2.1, q0.2.2.2⟩
      · rw [ev] at q0
        rcases q0 with ⟨q1, q2 | q2⟩
        · exact ⟨q1, q2.2⟩
        · exact absurd q2.1 md
  · have md : ¬ moveDo m a i := fun z => w ⟨z.1, z.2.2.1, z.2.2.2.1⟩
    have ev : moveV m N K a i = -1 := by unfold moveV; rw [if_neg w]
    refine TWO.ask (z := .int (J (-1))) (Nat.le_of_ble_eq_true rfl) (Nat.le_of_ble_eq_true rfl) ⟨_, rfl⟩ hCH hMH hSO hSZ ((kg_move 0 hK hc hC ha hi cZ Z150).mono (fun v h' q0 => ?_)) (fun h1 f8 f9 f10 f11 f12 f13 f14 f16 was pln s r14 r11 hB => (m_move 0 hB hM mN N90 mK K1 K60 h6 ha hi).mono (fun v h2 q0 => ?_))
    · rcases q0 with q0 | q0 | q0
      all_goals first | (exfalso; omega) | exact ⟨q0.2.1, q0.2.2⟩ | exact ⟨q0.2.2.1, q0.2.2.2⟩
    · rw [ev] at q0
      rcases q0 with ⟨q1, q2 | q2⟩
      · exact ⟨q1, q2.2⟩
      · exact absurd q2.1 md

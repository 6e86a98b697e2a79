/-! ===== what is closed, shut, and turns, on both ===== -/
theorem stR.hS {y : Nat} {h : mH} {S : Nat → Option mO} (k : stR y h S) : ∀ a o, S a = some o → hGet h a = some o := fun a o e => (k a o e).1
theorem stR.hR {x y r : Nat} {h : mH} {S : Nat → Option mO} (k : stR y h S) (hxy : x + 196 ≤ y) (hr : r = kA x 8) : ∀ a, ¬ S a = none → ¬ rBlk r a := by
  intro a e q
  cases z : S a with
  | none => exact e z
  | some o =>
    have := (k a o z).2.1
    unfold rBlk at q
    unfold kA at hr
    omega
set_option maxHeartbeats 4000000 in
set_option maxRecDepth 100000 in
theorem two_close {sg : Bool} {G : mG} {l : Launch} (hG : G.2.map Prod.snd = mTy) {x y n0 : Nat} {h : mH} (hn0 : n0 ≤ 600) (hI : RI sg x y n0 h) {a : Int} (ha : InR a) : TWO sg G l x y n0 false mX10_close mX11_close [.int (J a)] h := by
  obtain ⟨f4, m, kpm, pool, zt, ft, f18, pap, rwd, rw, hCH, hMH, hSO, hSZ⟩ := hI
  obtain ⟨S, kp, tk, zr, fr, p, e, o, zs, fs, b, fa, c, C, nm, g, hK, ⟨hT, hst, hke, htk⟩, hro, hpa, hxy⟩ := id hCH
  obtain ⟨⟨hA, hPo⟩, hkp, hta, h18, hrw⟩ := id hSO
  obtain ⟨N, K, T, Z, F, hX⟩ := fx_of hT hA
  obtain ⟨⟨mN, cN, N90⟩, ⟨mK, cK, K1, K60⟩, ⟨mT, cT, T10⟩, ⟨cZ, Z150⟩, ⟨⟨c11, c12, c13⟩, F90, c4⟩, ⟨hO, hpR, hpO, hoO⟩, ⟨c8, c9, L0, L90⟩, ⟨hc, hC⟩, hst2, htp⟩ := id hX
  obtain ⟨⟨hInv, hsc, hnc, hns⟩, hTk, hm7, hm8⟩ := id hA
  have hok := hInv.1
  have hM := hok.1
  have hCR := hT.1
  have hcT := hCR.2.1
  have hcS := hCR.2.2.1
  have hcK := hCR.2.2.2.1
  have hcL := hCR.2.2.2.2.1
  have hst3 : ∀ t : Nat, (t : Int) < m 1 → 0 ≤ m (258 + 14 * t) ∧ m (258 + 14 * t) ≤ 2 := fun t ht => (hst2 t ht).1
  by_cases w : 0 ≤ a ∧ a ≤ m 1 - 1
  · obtain ⟨q, rfl⟩ : ∃ q : Nat, a = q := ⟨a.toNat, by omega⟩
    have eq : ((q : Int)).toNat = q := by omega
    have e58 : ((258 : Int) + 14 * (q : Int)).toNat = 258 + 14 * q := by omega
    have t0 : c (32 + 3 * q) = 0 ↔ m (258 + 14 * q) = 0 := by rw [(hcT q (by omega)).1]; exact swT_0 (hst3 q (by omega))
    by_cases w2 : m (258 + 14 * q) = 0
    · have cd : closeDo m q := ⟨w, by rw [e58]; exact w2⟩
      have t1 := t0.mpr w2
      obtain ⟨m2, b1, b2, b3, b4⟩ := both_close (G := G) (l := l) (r := kA x 8) (h0 := h) hst.hS (hst.hR hxy.1 rfl) hA hPo (by omega) cd
      have hok2 := b2.1.1.1
      refine TWO.of (dm := 1000) (z := .int (J (m2 5))) (f4' := f4) (m' := m2) (kpm' := kpm) (pool' := pool) (zt' := zt) (ft' := ft) (f18' := f18) (pap' := pap) (rwd' := rwd) (rw' := rw) (Nat.le_of_ble_eq_true rfl) (Nat.le_of_ble_eq_true rfl) ⟨_, rfl⟩ hSZ hMH ((kg_close 0 hK hc hC ha (r1 := m2 5) (R := fun h' => ∃ c5, BES (kA x 8) pool S h (-1) c5 m2 h') (hok2.1 5) (fun _ _ => b4 b (c 4) h ⟨fa, c, C, nm, g, hK.r, Same.refl, hCR, hT.2, rfl⟩)).mono (fun v h' q0 => ?_)) (fun h1 hM1 => ?_) ?_
      · rw [eq] at q0
        rcases q0 with q0 | q0 | ⟨-, -, q1, q2⟩
        · exfalso; omega
        · exfalso; omega
        · obtain ⟨c5, f2, c2, C2, nm2, g2, hR2, hS2, hC2, hT2, -⟩ := q2
          exact ⟨q1, CP.of hxy (same_kr hS2) (hK.ofR hS2 hR2) ⟨hC2, hT2⟩ hst hke htk hro hpa⟩
      · obtain ⟨f14, f16, was, pln, r14, f8, f9, f10, f11, f12, f13, s, r11, hB⟩ := id hM1
        refine ((m_close hPo.r hB hok ha (fun _ => b1)).deeper (Nat.le_of_ble_eq_true rfl)).mono (fun v h2 q0 => ?_)
        rcases q0 with ⟨q1, -⟩ | ⟨-, q1, q2, q3⟩
        · exact absurd cd q1
        · exact ⟨q1, ⟨-1, f16, was, pln, by decide, q2.isMs r11⟩, q3⟩
      · exact hSO.mm (b2.up (by omega) (by omega)) b3
    · have cd : ¬ closeDo m q := fun z => w2 (by have := z.2; rwa [e58] at this)
      have t1 : ¬ c (32 + 3 * q) = 0 := fun z => w2 (t0.mp z)
      have ev : closeN m q = -3 := by unfold closeN; rw [if_pos w]
      refine TWO.ask (z := .int (J (-3))) (Nat.le_of_ble_eq_true rfl) (Nat.le_of_ble_eq_true rfl) ⟨_, rfl⟩ hCH hMH hSO hSZ ((kg_close 0 hK hc hC ha (r1 := 0) (R := fun _ => True) (by decide) (fun z1 z2 => absurd z2 (by rw [eq]; exact t1))).mono (fun v h' q0 => ?_)) (fun h1 f8 f9 f10 f11 f12 f13 f14 f16 was pln s r14 r11 hB => (m_close (m' := m) hPo.r hB hok ha (fun z => absurd z cd)).mono (fun v h2 q0 => ?_))
      · rw [eq] at q0
        rcases q0 with q0 | q0 | q0
        · exfalso; omega
        · exact ⟨q0.2.2.1, q0.2.2.2⟩
        · exfalso; omega
      · rcases q0 with ⟨-, q1, q2⟩ | ⟨q1, -⟩
        · rw [ev] at q1; exact ⟨q1, q2⟩
        · exact absurd q1 cd
  · have cd : ¬ closeDo m a := fun z => w z.1
    have ev : closeN m a = -1 := by unfold closeN; rw [if_neg w]
    refine TWO.ask (z := .int (J (-1))) (Nat.le_of_ble_eq_true rfl) (Nat.le_of_ble_eq_true rfl) ⟨_, rfl⟩ hCH hMH hSO hSZ ((kg_close 0 hK hc hC ha (r1 := 0) (R := fun _ => True) (by decide) (fun z1 z2 => absurd z1 (by omega))).mono (fun v h' q0 => ?_)) (fun h1 f8 f9 f10 f11 f12 f13 f14 f16 was pln s r14 r11 hB => (m_close (m' := m) hPo.r hB hok ha (fun z => absurd z cd)).mono (fun v h2 q0 => ?_))
    · rcases q0 with q0 | q0 | q0
      · exact ⟨q0.2.1, q0.2.2⟩
      · exfalso; omega
      · exfalso; omega
    · rcases q0 with ⟨-, q1, q2⟩ | ⟨q1, -⟩
      · rw [ev] at q1; exact ⟨q1, q2⟩
      · exact absurd q1 cd
set_option maxHeartbeats 4000000 in
set_option maxRecDepth 100000 in
theorem two_shut {sg : Bool} {G : mG} {l : Launch} (hG : G.2.map Prod.snd = mTy) {x y n0 : Nat} {h : mH} (hn0 : n0 ≤ 600) (hI : RI sg x y n0 h) {a : Int} (ha : InR a) : TWO sg G l x y n0 false mX10_shut mX11_shut [.int (J a)] h := by
  obtain ⟨f4, m, kpm, pool, zt, ft, f18, pap, rwd, rw, hCH, hMH, hSO, hSZ⟩ := hI
  obtain ⟨S, kp, tk, zr, fr, p, e, o, zs, fs, b, fa, c, C, nm, g, hK, ⟨hT, hst, hke, htk⟩, hro, hpa, hxy⟩ := id hCH
  obtain ⟨⟨hA, hPo⟩, hkp, hta, h18, hrw⟩ := id hSO
  obtain ⟨N, K, T, Z, F, hX⟩ := fx_of hT hA
  obtain ⟨⟨mN, cN, N90⟩, ⟨mK, cK, K1, K60⟩, ⟨mT, cT, T10⟩, ⟨cZ, Z150⟩, ⟨⟨c11, c12, c13⟩, F90, c4⟩, ⟨hO, hpR, hpO, hoO⟩, ⟨c8, c9, L0, L90⟩, ⟨hc, hC⟩, hst2, htp⟩ := id hX
  obtain ⟨⟨hInv, hsc, hnc, hns⟩, hTk, hm7, hm8⟩ := id hA
  have hok := hInv.1
  have hM := hok.1
  have hCR := hT.1
  have hcT := hCR.2.1
  have hcS := hCR.2.2.1
  have hcK := hCR.2.2.2.1
  have hcL := hCR.2.2.2.2.1
  have hst3 : ∀ t : Nat, (t : Int) < m 1 → 0 ≤ m (258 + 14 * t) ∧ m (258 + 14 * t) ≤ 2 := fun t ht => (hst2 t ht).1
  by_cases w : 0 ≤ a ∧ a ≤ m 0 - 1
  · skip
    obtain ⟨q, rfl⟩ : ∃ q : Nat, a = q := ⟨a.toNat, by omega⟩
    have e18 : ((18 : Int) + 4 * (q : Int)).toNat = 18 + 4 * q := by omega
    have eq : ((q : Int)).toNat = q := by omega
    have s0 : c (304 + 3 * q) = 0 ↔ m (18 + 4 * q) = 0 := by rw [(hcS q (by omega)).1]; exact swT_0 (hsc.2.2 q (by omega)).1
    have hop : openP m (q : Int) ↔ m (18 + 4 * q) = 0 := ⟨fun z => by have := z.2.2; rwa [e18] at this, fun z => ⟨w.1, w.2, by rw [e18]; exact z⟩⟩
    by_cases w2 : m (18 + 4 * q) = 0
    · have cd : openP m (q : Int) := hop.mpr w2
      have t1 := s0.mpr w2
      obtain ⟨m2, b1, b2, b3, b4⟩ := both_shut (G := G) (l := l) (r := kA x 8) (h0 := h) hst.hS (hst.hR hxy.1 rfl) hA hPo (by omega) cd
      have hok2 := b2.1.1.1
      refine TWO.of (dm := 1000) (z := .int (J (m2 5))) (f4' := f4) (m' := m2) (kpm' := kpm) (pool' := pool) (zt' := zt) (ft' := ft) (f18' := f18) (pap' := pap) (rwd' := rwd) (rw' := rw) (Nat.le_of_ble_eq_true rfl) (Nat.le_of_ble_eq_true rfl) ⟨_, rfl⟩ hSZ hMH ((kg_shut 0 hK hc hC ha (r1 := m2 5) (R := fun h' => ∃ c5, BES (kA x 8) pool S h (-1) c5 m2 h') (hok2.1 5) (fun _ _ => b4 b (c 4) h ⟨fa, c, C, nm, g, hK.r, Same.refl, hCR, hT.2, rfl⟩)).mono (fun v h' q0 => ?_)) (fun h1 hM1 => ?_) ?_
      · rw [eq] at q0
        rcases q0 with q0 | q0 | ⟨-, -, q1, q2⟩
        · exfalso; omega
        · exfalso; omega
        · obtain ⟨c5, f2, c2, C2, nm2, g2, hR2, hS2, hC2, hT2, -⟩ := q2
          exact ⟨q1, CP.of hxy (same_kr hS2) (hK.ofR hS2 hR2) ⟨hC2, hT2⟩ hst hke htk hro hpa⟩
      · obtain ⟨f14, f16, was, pln, r14, f8, f9, f10, f11, f12, f13, s, r11, hB⟩ := id hM1
        refine ((m_shut hPo.r hB hok ha (fun _ => b1)).deeper (Nat.le_of_ble_eq_true rfl)).mono (fun v h2 q0 => ?_)
        rcases q0 with ⟨q1, -⟩ | ⟨-, q1, q2, q3⟩
        · exact absurd cd q1
        · exact ⟨q1, ⟨-1, f16, was, pln, by decide, q2.isMs r11⟩, q3⟩
      · exact hSO.mm (b2.up (by omega) (by omega)) b3
    · have cd : ¬ openP m (q : Int) := fun z => w2 (hop.mp z)
      have t1 : ¬ c (304 + 3 * q) = 0 := fun z => w2 (s0.mp z)
      have ev : shutN m q = -3 := by unfold shutN; rw [if_pos w]
      refine TWO.ask (z := .int (J (-3))) (Nat.le_of_ble_eq_true rfl) (Nat.le_of_ble_eq_true rfl) ⟨_, rfl⟩ hCH hMH hSO hSZ ((kg_shut 0 hK hc hC ha (r1 := 0) (R := fun _ => True) (by decide) (fun z1 z2 => absurd z2 (by rw [eq]; exact t1))).mono (fun v h' q0 => ?_)) (fun h1 f8 f9 f10 f11 f12 f13 f14 f16 was pln s r14 r11 hB => (m_shut (m' := m) hPo.r hB hok ha (fun z => absurd z cd)).mono (fun v h2 q0 => ?_))
      · rw [eq] at q0
        rcases q0 with q0 | q0 | q0
        · exfalso; omega
        · exact ⟨q0.2.2.1, q0.2.2.2⟩
        · exfalso; omega
      · rcases q0 with ⟨-, q1, q2⟩ | ⟨q1, -⟩
        · rw [ev] at q1; exact ⟨q1, q2⟩
        · exact absurd q1 cd
  · have cd : ¬ openP m a := fun z => w ⟨z.1, z.2.1⟩
    have ev : shutN m a = -1 := by unfold shutN; rw [if_neg w]
    refine TWO.ask (z := .int (J (-1))) (Nat.le_of_ble_eq_true rfl) (Nat.le_of_ble_eq_true rfl) ⟨_, rfl⟩ hCH hMH hSO hSZ ((kg_shut 0 hK hc hC ha (r1 := 0) (R := fun _ => True) (by decide) (fun z1 z2 => absurd z1 (by omega))).mono (fun v h' q0 => ?_)) (fun h1 f8 f9 f10 f11 f12 f13 f14 f16 was pln s r14 r11 hB => (m_shut (m' := m) hPo.r hB hok ha (fun z => absurd z cd)).mono (fun v h2 q0 => ?_))
    · rcases q0 with q0 | q0 | q0
      · exact ⟨q0.2.1, q0.2.2⟩
      · exfalso; omega
      · exfalso; omega
    · rcases q0 with ⟨-, q1, q2⟩ | ⟨q1, -⟩
      · rw [ev] at q1; exact ⟨q1, q2⟩
      · exact absurd q1 cd
set_option maxHeartbeats 4000000 in
set_option maxRecDepth 100000 in
theorem two_tick {sg : Bool} {G : mG} {l : Launch} (hG : G.2.map Prod.snd = mTy) {x y n0 : Nat} {h : mH} (hn0 : n0 ≤ 600) (hI : RI sg x y n0 h) : TWO sg G l x y n0 false mX10_tick mX11_tick [] h := by
  obtain ⟨f4, m, kpm, pool, zt, ft, f18, pap, rwd, rw, hCH, hMH, hSO, hSZ⟩ := hI
  obtain ⟨S, kp, tk, zr, fr, p, e, o, zs, fs, b, fa, c, C, nm, g, hK, ⟨hT, hst, hke, htk⟩, hro, hpa, hxy⟩ := id hCH
  obtain ⟨⟨hA, hPo⟩, hkp, hta, h18, hrw⟩ := id hSO
  obtain ⟨N, K, T, Z, F, hX⟩ := fx_of hT hA
  obtain ⟨⟨mN, cN, N90⟩, ⟨mK, cK, K1, K60⟩, ⟨mT, cT, T10⟩, ⟨cZ, Z150⟩, ⟨⟨c11, c12, c13⟩, F90, c4⟩, ⟨hO, hpR, hpO, hoO⟩, ⟨c8, c9, L0, L90⟩, ⟨hc, hC⟩, hst2, htp⟩ := id hX
  obtain ⟨⟨hInv, hsc, hnc, hns⟩, hTk, hm7, hm8⟩ := id hA
  have hok := hInv.1
  have hM := hok.1
  have hCR := hT.1
  have hcT := hCR.2.1
  have hcS := hCR.2.2.1
  have hcK := hCR.2.2.2.1
  have hcL := hCR.2.2.2.2.1
  have hst3 : ∀ t : Nat, (t : Int) < m 1 → 0 ≤ m (258 + 14 * t) ∧ m (258 + 14 * t) ≤ 2 := fun t ht => (hst2 t ht).1
  obtain ⟨m2, b1, b2, b3, b4⟩ := both_tick (G := G) (l := l) (r := kA x 8) (h0 := h) hst.hS (hst.hR hxy.1 rfl) hPo hA (by omega) (by omega)
  have rn : InR (nextV m) := by
    have := nextV_r hok
    have := hok.2.2.2.2.1
    exact ⟨by omega, by omega⟩
  refine TWO.of (dm := 1000) (z := .int (J (nextV m))) (f4' := f4) (m' := m2) (kpm' := kpm) (pool' := pool) (zt' := zt) (ft' := ft) (f18' := f18) (pap' := pap) (rwd' := rwd) (rw' := rw) (Nat.le_of_ble_eq_true rfl) (Nat.le_of_ble_eq_true rfl) ⟨_, rfl⟩ hSZ hMH ((kg_tick 0 hK hc hC (r1 := nextV m) (R := fun h' => ∃ b2, BES (kA x 8) pool S h b2 (c 4) m2 h') rn (b4 b (c 4) h ⟨fa, c, C, nm, g, hK.r, Same.refl, hCR, hT.2, rfl⟩)).mono (fun v h' q0 => ?_)) (fun h1 hM1 => ?_) ?_
  · obtain ⟨q1, q2⟩ := q0
    obtain ⟨c5, f2, c2, C2, nm2, g2, hR2, hS2, hC2, hT2, -⟩ := q2
    exact ⟨q1, CP.of hxy (same_kr hS2) (hK.ofR hS2 hR2) ⟨hC2, hT2⟩ hst hke htk hro hpa⟩
  · obtain ⟨f14, f16, was, pln, r14, f8, f9, f10, f11, f12, f13, s, r11, hB⟩ := id hM1
    refine ((m_tick hPo.r hB b1).deeper (Nat.le_of_ble_eq_true rfl)).mono (fun v h2 q0 => ?_)
    obtain ⟨q1, q2, q3⟩ := q0
    exact ⟨q1, ⟨sinkV m f14, f16, was, pln, by unfold sinkV; split <;> assumption, q2.isMs r11⟩, q3⟩
  · exact hSO.mm (b2.up (by omega) (by omega)) b3
set_option maxHeartbeats 4000000 in
set_option maxRecDepth 100000 in
theorem two_run {sg : Bool} {G : mG} {l : Launch} (hG : G.2.map Prod.snd = mTy) {x y n0 : Nat} {h : mH} (hn0 : n0 ≤ 600) (hI : RI sg x y n0 h) {a : Int} (ha : InR a) : TWO sg G l x y n0 false mX10_run mX11_run [.int (J a)] h := by
  obtain ⟨f4, m, kpm, pool, zt, ft, f18, pap, rwd, rw, hCH, hMH, hSO, hSZ⟩ := hI
  obtain ⟨S, kp, tk, zr, fr, p, e, o, zs, fs, b, fa, c, C, nm, g, hK, ⟨hT, hst, hke, htk⟩, hro, hpa, hxy⟩ := id hCH
  obtain ⟨⟨hA, hPo⟩, hkp, hta, h18, hrw⟩ := id hSO
  obtain ⟨N, K, T, Z, F, hX⟩ := fx_of hT hA
  obtain ⟨⟨mN, cN, N90⟩, ⟨mK, cK, K1, K60⟩, ⟨mT, cT, T10⟩, ⟨cZ, Z150⟩, ⟨⟨c11, c12, c13⟩, F90, c4⟩, ⟨hO, hpR, hpO, hoO⟩, ⟨c8, c9, L0, L90⟩, ⟨hc, hC⟩, hst2, htp⟩ := id hX
  obtain ⟨⟨hInv, hsc, hnc, hns⟩, hTk, hm7, hm8⟩ := id hA
  have hok := hInv.1
  have hM := hok.1
  have hCR := hT.1
  have hcT := hCR.2.1
  have hcS := hCR.2.2.1
  have hcK := hCR.2.2.2.1
  have hcL := hCR.2.2.2.2.1
  have hst3 : ∀ t : Nat, (t : Int) < m 1 → 0 ≤ m (258 + 14 * t) ∧ m (258 + 14 * t) ≤ 2 := fun t ht => (hst2 t ht).1
  by_cases w : 0 ≤ a ∧ a ≤ 100
  · obtain ⟨q, rfl⟩ : ∃ q : Nat, a = q := ⟨a.toNat, by omega⟩
    obtain ⟨k, m2, b1, b0, b2, b3, b4⟩ := both_ticks (G := G) (l := l) (r := kA x 8) (h0 := h) (n := q) hst.hS (hst.hR hxy.1 rfl) hPo hA (by omega) (by omega) (by omega)
    refine TWO.of (dm := 1000) (z := .int (J ((k : Int)))) (f4' := f4) (m' := m2) (kpm' := kpm) (pool' := pool) (zt' := zt) (ft' := ft) (f18' := f18) (pap' := pap) (rwd' := rwd) (rw' := rw) (Nat.le_of_ble_eq_true rfl) (Nat.le_of_ble_eq_true rfl) ⟨_, rfl⟩ hSZ hMH ((kg_run 0 hK hc hC ha (r1 := (k : Int)) (R := fun h' => ∃ b2, BES (kA x 8) pool S h b2 (c 4) m2 h') ⟨by omega, by omega⟩ (fun _ => b4 b (c 4) h ⟨fa, c, C, nm, g, hK.r, Same.refl, hCR, hT.2, rfl⟩)).mono (fun v h' q0 => ?_)) (fun h1 hM1 => ?_) ?_
    · rcases q0 with ⟨q1, -⟩ | ⟨-, q1, q2⟩
      · exact absurd w q1
      · obtain ⟨c5, f2, c2, C2, nm2, g2, hR2, hS2, hC2, hT2, -⟩ := q2
        exact ⟨q1, CP.of hxy (same_kr hS2) (hK.ofR hS2 hR2) ⟨hC2, hT2⟩ hst hke htk hro hpa⟩
    · obtain ⟨f14, f16, was, pln, r14, f8, f9, f10, f11, f12, f13, s, r11, hB⟩ := id hM1
      refine ((m_run (k := k) (m' := m2) hPo.r r14 ha hB (fun _ => by rw [show ((q : Int)).toNat = q by omega]; exact b1)).deeper (Nat.le_of_ble_eq_true rfl)).mono (fun v h2 q0 => ?_)
      rcases q0 with ⟨q1, -⟩ | ⟨-, q1, ⟨g14, r2, q2⟩, q3⟩
      · exact absurd w q1
      · exact ⟨q1, ⟨g14, f16, was, pln, r2, q2.isMs r11⟩, q3⟩
    · exact hSO.mm (b2.up (by omega) (by omega)) b3
  · skip
    refine TWO.ask (z := .int (J (-2))) (Nat.le_of_ble_eq_true rfl) (Nat.le_of_ble_eq_true rfl) ⟨_, rfl⟩ hCH hMH hSO hSZ ((kg_run 0 hK hc hC ha (r1 := 0) (R := fun _ => True) (by decide) (fun z => absurd z w)).mono (fun v h' q0 => ?_)) (fun h1 f8 f9 f10 f11 f12 f13 f14 f16 was pln s r14 r11 hB => (m_run (k := 0) (m' := m) hPo.r r14 ha hB (fun z => absurd z w)).mono (fun v h2 q0 => ?_))
    · rcases q0 with q0 | q0
      · exact ⟨q0.2.1, q0.2.2⟩
      · exact absurd q0.1 w
    · rcases q0 with q0 | q0
      · exact ⟨q0.2.1, q0.2.2⟩
      · exact absurd q0.1 w

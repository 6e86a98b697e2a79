/-! ===== spell, spellTask, thing, of: both alike, whatever is asked later ===== -/

set_option maxHeartbeats 4000000 in
set_option maxRecDepth 100000 in
theorem two_spell {sg : Bool} {G : mG} {l : Launch} (hG : G.2.map Prod.snd = mTy) {x y n0 : Nat} {h : mH} (hn0 : n0 ≤ 600) (hI : RI sg x y n0 h) {a : Int} (ha : InR a) : TWO sg G l x y n0 false mX10_spell mX11_spell [.int (J a)] h := by
  obtain ⟨f4, m, kpm, pool, zt, ft, f18, pap, rwd, rw, hCH, hMH, hSO, hSZ⟩ := hI
  obtain ⟨S, kp, tk, zr, fr, p, e, o, zs, fs, b, fa, c, C, nm, g, hK, ⟨hT, hst, hke, htk⟩, hro, hpa, hxy⟩ := id hCH
  obtain ⟨⟨hA, hPo⟩, hkp, hta, h18, hrw⟩ := id hSO
  obtain ⟨N, K, T, Z, F, hX⟩ := fx_of hT hA
  obtain ⟨⟨mN, cN, N90⟩, ⟨mK, cK, K1, K60⟩, ⟨mT, cT, T10⟩, ⟨cZ, Z150⟩, ⟨⟨c11, c12, c13⟩, F90, c4⟩, ⟨hO, hpR, hpO, hoO⟩, ⟨c8, c9, L0, L90⟩, ⟨hc, hC⟩, hst2, htp⟩ := id hX
  obtain ⟨⟨hInv, hsc, hnc, hns⟩, hTk, hm7, hm8⟩ := id hA
  have hok := hInv.1
  have hM := hok.1
  have hCR := hT.1
  have hcT := hCR.2.1
  have hcS := hCR.2.2.1
  have hcK := hCR.2.2.2.1
  have hcL := hCR.2.2.2.2.1
  have hgp := hm8.2
  have hst3 : ∀ t : Nat, (t : Int) < m 1 → 0 ≤ m (258 + 14 * t) ∧ m (258 + 14 * t) ≤ 2 := fun t ht => (hst2 t ht).1
  have hSd : ∀ q, ¬ S q = none → ¬ dBlk (kA x 4) q := fun q e z => by
    cases k : S q with
    | none => exact e k
    | some o => have := (hst q o k).2.1; unfold dBlk kA at z; omega
  by_cases w : 0 ≤ a ∧ a ≤ m 1 - 1
  · obtain ⟨q, rfl⟩ : ∃ q : Nat, a = q := ⟨a.toNat, by omega⟩
    obtain ⟨P, E, e1, e2, tp⟩ := hCR.2.2.2.2.2.2.2.1 q (by omega)
    obtain ⟨-, -, -, P2, E2, p1, p2, tx⟩ := hInv.2.2.1 q (by omega)
    obtain rfl : P2 = P := by omega
    obtain rfl : E2 = E := by omega
    have t1 := tx.1
    have t2 := tx.2.1
    have t3 := tx.le hInv.2.1.2.2
    have mn : minOk pool P2 E2 := by
      rcases tx.2.2 with ⟨z, -⟩ | ⟨-, nn, z⟩
      · intro j h1 h2; omega
      · exact fun j h1 h2 => min_C nn P2 E2 z j h1 h2
    have hdb : DBd pool 3 P2 E2 := by
      rcases tx.2.2 with ⟨z, -⟩ | ⟨z, -⟩
      · intro j h1 h2
        obtain rfl : j = P2 := by omega
        rw [bdp_0]; decide
      · exact hgp.db (by omega)
    obtain ⟨s2, s3, s4, W⟩ := write_sg (G := G) (l := l) hPo hst.hS hSd hK.s (r := g (2 * q)) (P := P2) (E := E2) (by omega) (by omega) hdb (tp.elim Or.inl (fun ⟨b, hi, n, k1, k2⟩ => Or.inr ⟨false, 0, b, hi, n, k1, k2⟩)) pap
    have sp1 := spS_w (pool := pool) (to := E2) (E2 - P2) P2 false pap 0
    refine TWO.of (dm := 1000) (dc := 751) (z := .int (J ((spS pool E2 (E2 - P2) P2 false pap 0).2 : Int))) (f4' := f4) (m' := m) (kpm' := kpm) (pool' := pool) (zt' := zt) (ft' := ft) (f18' := ((spS pool E2 (E2 - P2) P2 false pap 0).2 : Int)) (pap' := (spS pool E2 (E2 - P2) P2 false pap 0).1) (rwd' := rwd) (rw' := rw) (Nat.le_of_ble_eq_true rfl) (Nat.le_of_ble_eq_true rfl) ⟨_, rfl⟩ hSZ hMH ((kg_spell 737 hK hc hC ha (n1 := s2.2) (R := fun h' => isSs h' (kA x 4) s2 ∧ Same (dBlk (kA x 4)) h h') (fun _ => by rw [show ((q : Int)).toNat = q by omega]; exact W)).mono (fun v h' q0 => ?_)) (fun h1 hM1 => ?_) ?_
    · rcases q0 with ⟨q1, -⟩ | ⟨-, q1, q2, q3⟩
      · exfalso; omega
      · exact ⟨by rw [q1, s4.1], CP.of hxy (same_ks q3) (hK.ofS q3 q2.1) hT hst hke htk hro ⟨s3, fun _ => s4⟩⟩
    · obtain ⟨f14, f16, was, pln, r14, f8, f9, f10, f11, f12, f13, s, r11, hB⟩ := id hM1
      refine ((m_spell (P := P2) (E := E2) 0 hB hok hPo.r ha (fun _ => ⟨by rw [show ((262 : Int) + 14 * (q : Int)).toNat = 262 + 14 * q by omega]; exact p1, by rw [show ((263 : Int) + 14 * (q : Int)).toNat = 263 + 14 * q by omega]; exact p2, by omega, by omega, by omega, mn⟩)).deeper (Nat.le_of_ble_eq_true rfl)).mono (fun v h2 q0 => ?_)
      rcases q0 with ⟨q1, -⟩ | ⟨-, q1, q2, q3⟩
      · exact absurd w q1
      · exact ⟨q1, ⟨f14, f16, was, pln, r14, q2.isMs r11⟩, q3⟩
    · obtain ⟨u1, u2, u3, -, u5⟩ := hSO.up
      exact ⟨u1, u2, u3, ⟨by omega, by omega⟩, u5⟩
  · refine TWO.of (dm := 1000) (dc := 14) (z := .int (J (-1))) (f4' := f4) (m' := m) (kpm' := kpm) (pool' := pool) (zt' := zt) (ft' := ft) (f18' := f18) (pap' := pap) (rwd' := rwd) (rw' := rw) (Nat.le_of_ble_eq_true rfl) (Nat.le_of_ble_eq_true rfl) ⟨_, rfl⟩ hSZ hMH ((kg_spell 0 hK hc hC ha (n1 := 0) (R := fun _ => True) (fun z => absurd z (by omega))).mono (fun v h' q0 => ?_)) (fun h1 hM1 => ?_) hSO.up
    · rcases q0 with ⟨-, q1, rfl⟩ | ⟨q1, -⟩
      · exact ⟨q1, CP.rf hCH⟩
      · exfalso; omega
    · obtain ⟨f14, f16, was, pln, r14, f8, f9, f10, f11, f12, f13, s, r11, hB⟩ := id hM1
      refine ((m_spell (P := 0) (E := 0) 0 hB hok hPo.r ha (fun z => absurd z w)).deeper (Nat.le_of_ble_eq_true rfl)).mono (fun v h2 q0 => ?_)
      rcases q0 with ⟨-, q1, rfl⟩ | ⟨q1, -⟩
      · exact ⟨q1, hM1, Same.refl⟩
      · exact absurd q1 w

set_option maxHeartbeats 4000000 in
set_option maxRecDepth 100000 in
theorem two_spellTask {sg : Bool} {G : mG} {l : Launch} (hG : G.2.map Prod.snd = mTy) {x y n0 : Nat} {h : mH} (hn0 : n0 ≤ 600) (hI : RI sg x y n0 h) {a : Int} (ha : InR a) : TWO sg G l x y n0 false mX10_spellTask mX11_spellTask [.int (J a)] h := by
  obtain ⟨f4, m, kpm, pool, zt, ft, f18, pap, rwd, rw, hCH, hMH, hSO, hSZ⟩ := hI
  obtain ⟨S, kp, tk, zr, fr, p, e, o, zs, fs, b, fa, c, C, nm, g, hK, ⟨hT, hst, hke, htk⟩, hro, hpa, hxy⟩ := id hCH
  obtain ⟨⟨hA, hPo⟩, hkp, hta, h18, hrw⟩ := id hSO
  obtain ⟨N, K, T, Z, F, hX⟩ := fx_of hT hA
  obtain ⟨⟨mN, cN, N90⟩, ⟨mK, cK, K1, K60⟩, ⟨mT, cT, T10⟩, ⟨cZ, Z150⟩, ⟨⟨c11, c12, c13⟩, F90, c4⟩, ⟨hO, hpR, hpO, hoO⟩, ⟨c8, c9, L0, L90⟩, ⟨hc, hC⟩, hst2, htp⟩ := id hX
  obtain ⟨⟨hInv, hsc, hnc, hns⟩, hTk, hm7, hm8⟩ := id hA
  have hok := hInv.1
  have hM := hok.1
  have hCR := hT.1
  have hcT := hCR.2.1
  have hcS := hCR.2.2.1
  have hcK := hCR.2.2.2.1
  have hcL := hCR.2.2.2.2.1
  have hgp := hm8.2
  have hst3 : ∀ t : Nat, (t : Int) < m 1 → 0 ≤ m (258 + 14 * t) ∧ m (258 + 14 * t) ≤ 2 := fun t ht => (hst2 t ht).1
  have hSd : ∀ q, ¬ S q = none → ¬ dBlk (kA x 4) q := fun q e z => by
    cases k : S q with
    | none => exact e k
    | some o => have := (hst q o k).2.1; unfold dBlk kA at z; omega
  by_cases w : 0 ≤ a ∧ a ≤ m 3 - 1
  · obtain ⟨q, rfl⟩ : ∃ q : Nat, a = q := ⟨a.toNat, by omega⟩
    obtain ⟨-, -, -, -, -, -, b1, hi1, n1, P, E, e1, e2, e3, e4⟩ := (hT.2.2 q (by omega)).1
    obtain ⟨-, -, -, -, -, -, -, -, P2, E2, p1, p2, p0, p4, p3, nn, pt⟩ := (hTk.2 q (by omega)).1
    obtain rfl : P2 = P := by omega
    obtain rfl : E2 = E := by omega
    have t3 := hInv.2.1.2.2
    have mn : minOk pool P2 E2 := fun j h1 h2 => min_K nn 0 P2 E2 pt j h1 h2
    obtain ⟨s2, s3, s4, W⟩ := write_sg (G := G) (l := l) hPo hst.hS hSd hK.s (r := g (180 + 2 * q)) (P := P2) (E := E2) (by omega) (by omega) (hgp.db (by omega)) (Or.inr ⟨true, 0, b1, hi1, n1, e3, e4⟩) pap
    have sp1 := spS_w (pool := pool) (to := E2) (E2 - P2) P2 false pap 0
    refine TWO.of (dm := 1000) (dc := 751) (z := .int (J ((spS pool E2 (E2 - P2) P2 false pap 0).2 : Int))) (f4' := f4) (m' := m) (kpm' := kpm) (pool' := pool) (zt' := zt) (ft' := ft) (f18' := ((spS pool E2 (E2 - P2) P2 false pap 0).2 : Int)) (pap' := (spS pool E2 (E2 - P2) P2 false pap 0).1) (rwd' := rwd) (rw' := rw) (Nat.le_of_ble_eq_true rfl) (Nat.le_of_ble_eq_true rfl) ⟨_, rfl⟩ hSZ hMH ((kg_spellTask 737 hK hc hC ha (n1 := s2.2) (R := fun h' => isSs h' (kA x 4) s2 ∧ Same (dBlk (kA x 4)) h h') (fun _ => by rw [show ((q : Int)).toNat = q by omega]; exact W)).mono (fun v h' q0 => ?_)) (fun h1 hM1 => ?_) ?_
    · rcases q0 with ⟨q1, -⟩ | ⟨-, q1, q2, q3⟩
      · exfalso; omega
      · exact ⟨by rw [q1, s4.1], CP.of hxy (same_ks q3) (hK.ofS q3 q2.1) hT hst hke htk hro ⟨s3, fun _ => s4⟩⟩
    · obtain ⟨f14, f16, was, pln, r14, f8, f9, f10, f11, f12, f13, s, r11, hB⟩ := id hM1
      refine ((m_spellTask (P := P2) (E := E2) 0 hB hok hPo.r ha (fun _ => ⟨by rw [show ((1616 : Int) + 72 * (q : Int)).toNat = 1616 + 72 * q by omega]; exact p1, by rw [show ((1617 : Int) + 72 * (q : Int)).toNat = 1617 + 72 * q by omega]; exact p2, by omega, by omega, by omega, mn⟩)).deeper (Nat.le_of_ble_eq_true rfl)).mono (fun v h2 q0 => ?_)
      rcases q0 with ⟨q1, -⟩ | ⟨-, q1, q2, q3⟩
      · exact absurd w q1
      · exact ⟨q1, ⟨f14, f16, was, pln, r14, q2.isMs r11⟩, q3⟩
    · obtain ⟨u1, u2, u3, -, u5⟩ := hSO.up
      exact ⟨u1, u2, u3, ⟨by omega, by omega⟩, u5⟩
  · refine TWO.of (dm := 1000) (dc := 14) (z := .int (J (-1))) (f4' := f4) (m' := m) (kpm' := kpm) (pool' := pool) (zt' := zt) (ft' := ft) (f18' := f18) (pap' := pap) (rwd' := rwd) (rw' := rw) (Nat.le_of_ble_eq_true rfl) (Nat.le_of_ble_eq_true rfl) ⟨_, rfl⟩ hSZ hMH ((kg_spellTask 0 hK hc hC ha (n1 := 0) (R := fun _ => True) (fun z => absurd z (by omega))).mono (fun v h' q0 => ?_)) (fun h1 hM1 => ?_) hSO.up
    · rcases q0 with ⟨-, q1, rfl⟩ | ⟨q1, -⟩
      · exact ⟨q1, CP.rf hCH⟩
      · exfalso; omega
    · obtain ⟨f14, f16, was, pln, r14, f8, f9, f10, f11, f12, f13, s, r11, hB⟩ := id hM1
      refine ((m_spellTask (P := 0) (E := 0) 0 hB hok hPo.r ha (fun z => absurd z w)).deeper (Nat.le_of_ble_eq_true rfl)).mono (fun v h2 q0 => ?_)
      rcases q0 with ⟨-, q1, rfl⟩ | ⟨q1, -⟩
      · exact ⟨q1, hM1, Same.refl⟩
      · exact absurd q1 w

theorem swT_is1 {s : Int} : swT s = 1 ↔ s = 2 := by
  unfold swT
  by_cases a : s = 1
  · rw [if_pos a]; omega
  · rw [if_neg a]
    by_cases b : s = 2
    · rw [if_pos b]; omega
    · rw [if_neg b]; omega
set_option maxHeartbeats 4000000 in
set_option maxRecDepth 100000 in
theorem two_thing {sg : Bool} {G : mG} {l : Launch} (hG : G.2.map Prod.snd = mTy) {x y n0 : Nat} {h : mH} (hn0 : n0 ≤ 600) (hI : RI sg x y n0 h) {a : Int} (ha : InR a) {i : Int} (hi : InR i) : TWO sg G l x y n0 false mX10_thing mX11_thing [.int (J a), .int (J i)] h := by
  obtain ⟨f4, m, kpm, pool, zt, ft, f18, pap, rwd, rw, hCH, hMH, hSO, hSZ⟩ := hI
  obtain ⟨S, kp, tk, zr, fr, p, e, o, zs, fs, b, fa, c, C, nm, g, hK, ⟨hT, hst, hke, htk⟩, hro, hpa, hxy⟩ := id hCH
  obtain ⟨⟨hA, hPo⟩, hkp, hta, h18, hrw⟩ := id hSO
  obtain ⟨N, K, T, Z, F, hX⟩ := fx_of hT hA
  obtain ⟨⟨mN, cN, N90⟩, ⟨mK, cK, K1, K60⟩, ⟨mT, cT, T10⟩, ⟨cZ, Z150⟩, ⟨⟨c11, c12, c13⟩, F90, c4⟩, ⟨hO, hpR, hpO, hoO⟩, ⟨c8, c9, L0, L90⟩, ⟨hc, hC⟩, hst2, htp⟩ := id hX
  obtain ⟨⟨hInv, hsc, hnc, hns⟩, hTk, hm7, hm8⟩ := id hA
  have hok := hInv.1
  have hM := hok.1
  have hCR := hT.1
  have hcT := hCR.2.1
  have hcS := hCR.2.2.1
  have hcK := hCR.2.2.2.1
  have hcL := hCR.2.2.2.2.1
  have hgp := hm8.2
  have hst3 : ∀ t : Nat, (t : Int) < m 1 → 0 ≤ m (258 + 14 * t) ∧ m (258 + 14 * t) ≤ 2 := fun t ht => (hst2 t ht).1
  have hch : ∃ m1 : Nat, (inW c 0 90 a → chL (hGet h) m1 (g (2 * a.toNat)) ∧ ∀ f11 f12, stepsInV pool (m (262 + 14 * a).toNat) (m (263 + 14 * a).toNat) f11 f12 = m1) ∧ m1 ≤ 1000 := by
    by_cases w : inW c 0 90 a
    · obtain ⟨P, E, e1, e2, tp⟩ := hCR.2.2.2.2.2.2.2.1 a.toNat (by omega)
      obtain ⟨-, -, -, P2, E2, p1, p2, tx⟩ := hInv.2.2.1 a.toNat (by omega)
      obtain rfl : P2 = P := by omega
      obtain rfl : E2 = E := by omega
      have t2 := tx.2.1
      rw [show ((262 : Int) + 14 * a).toNat = 262 + 14 * a.toNat by omega, show ((263 : Int) + 14 * a).toNat = 263 + 14 * a.toNat by omega, p1, p2]
      rcases tp with ⟨rfl, g0⟩ | ⟨b, hi, n, g0, tp⟩
      · exact ⟨0, fun _ => ⟨by rw [g0]; exact (rfl : (none : Option Nat) = none), fun f11 f12 => steps_no⟩, by omega⟩
      · have lt := stL_lt tp
        rcases tx.2.2 with ⟨z, -⟩ | ⟨z, -⟩
        · exfalso; omega
        · obtain ⟨j, j1, j2, j3⟩ := steps_all tp (hgp.db (by omega)) (hgp.bg (by omega)) (by decide)
          exact ⟨j, fun _ => ⟨by rw [g0]; exact chL_mono hst.hS j _ j1, j3⟩, by omega⟩
    · exact ⟨0, fun z => absurd z w, by omega⟩
  obtain ⟨m1, hr, hm⟩ := hch
  have ev : ∀ f11 f12, thingV m pool a i f11 f12 = (if inW c 0 90 a then (if i = 0 then c (32 + 3 * a.toNat) else if i = 1 then c (33 + 3 * a.toNat) else if i = 2 then c (34 + 3 * a.toNat) else if i = 3 then (m1 : Int) else -1) else -1) := by
    intro f11 f12
    unfold thingV
    by_cases w : inW c 0 90 a
    · have r := hcT a.toNat (by omega)
      have r1 := hst3 a.toNat (by omega)
      have r2 := hnc a.toNat (by omega)
      rw [if_pos w, if_pos (show 0 ≤ a ∧ a ≤ m 1 - 1 by omega), (hr w).2 f11 f12, show ((258 : Int) + 14 * a).toNat = 258 + 14 * a.toNat by omega, show ((259 : Int) + 14 * a).toNat = 259 + 14 * a.toNat by omega, show ((264 : Int) + 14 * a).toNat = 264 + 14 * a.toNat by omega, r.1, r.2.1, r.2.2.1]
      have sw : swT (m (258 + 14 * a.toNat)) = (if m (258 + 14 * a.toNat) = 0 then 0 else 1) := by
        unfold swT
        by_cases z : m (258 + 14 * a.toNat) = 0
        · rw [if_pos z, if_neg (by omega), if_neg (by omega), z]
        · rw [if_neg z, if_neg r2, if_pos (by omega)]
      rw [sw]
    · rw [if_neg w, if_neg (by omega)]
  have hX2 : 0 ≤ a ∧ a ≤ m 1 - 1 → 0 ≤ m (262 + 14 * a).toNat ∧ m (262 + 14 * a).toNat ≤ m (263 + 14 * a).toNat ∧ txOk 3 pool pool ft (m (263 + 14 * a).toNat) := by
    intro w
    obtain ⟨-, -, -, P2, E2, p1, p2, tx⟩ := hInv.2.2.1 a.toNat (by omega)
    have t1 := tx.1
    have t2 := tx.le hInv.2.1.2.2
    rw [show ((262 : Int) + 14 * a).toNat = 262 + 14 * a.toNat by omega, show ((263 : Int) + 14 * a).toNat = 263 + 14 * a.toNat by omega, p1, p2]
    exact ⟨by omega, by omega, Or.inr ⟨rfl, rfl, by omega⟩, by omega, hPo⟩
  refine TWO.of (dm := 1000) (z := .int (J (thingV m pool a i 0 0))) (f4' := f4) (m' := m) (kpm' := kpm) (pool' := pool) (zt' := zt) (ft' := ft) (f18' := f18) (pap' := pap) (rwd' := rwd) (rw' := rw) (Nat.le_of_ble_eq_true rfl) (Nat.le_of_ble_eq_true rfl) ⟨_, rfl⟩ hSZ hMH ((kg_thing 0 hK hc hC ha hi (fun w => (hr w).1) hm).mono (fun v h1 q0 => ?_)) (fun h1 hM1 => ?_) hSO.up
  · obtain ⟨q1, rfl⟩ := q0
    exact ⟨by rw [q1, ev 0 0], CP.rf hCH⟩
  · obtain ⟨f14, f16, was, pln, r14, f8, f9, f10, f11, f12, f13, s, r11, hB⟩ := id hM1
    refine ((m_thing 0 hB hM ⟨by omega, by omega⟩ r11 ha hi hX2).deeper (Nat.le_of_ble_eq_true rfl)).mono (fun v h2 q0 => ?_)
    obtain ⟨q2, q3, q4⟩ := q0
    exact ⟨by rw [q2, ev f11 f12, ev 0 0], ⟨f14, f16, was, pln, r14, q3⟩, q4⟩

set_option maxHeartbeats 4000000 in
set_option maxRecDepth 100000 in
theorem two_of {sg : Bool} {G : mG} {l : Launch} (hG : G.2.map Prod.snd = mTy) {x y n0 : Nat} {h : mH} (hn0 : n0 ≤ 600) (hI : RI sg x y n0 h) {a : Int} (ha : InR a) {i : Int} (hi : InR i) : TWO sg G l x y n0 false mX10_of mX11_of [.int (J a), .int (J i)] h := by
  obtain ⟨f4, m, kpm, pool, zt, ft, f18, pap, rwd, rw, hCH, hMH, hSO, hSZ⟩ := hI
  obtain ⟨S, kp, tk, zr, fr, p, e, o, zs, fs, b, fa, c, C, nm, g, hK, ⟨hT, hst, hke, htk⟩, hro, hpa, hxy⟩ := id hCH
  obtain ⟨⟨hA, hPo⟩, hkp, hta, h18, hrw⟩ := id hSO
  obtain ⟨N, K, T, Z, F, hX⟩ := fx_of hT hA
  obtain ⟨⟨mN, cN, N90⟩, ⟨mK, cK, K1, K60⟩, ⟨mT, cT, T10⟩, ⟨cZ, Z150⟩, ⟨⟨c11, c12, c13⟩, F90, c4⟩, ⟨hO, hpR, hpO, hoO⟩, ⟨c8, c9, L0, L90⟩, ⟨hc, hC⟩, hst2, htp⟩ := id hX
  obtain ⟨⟨hInv, hsc, hnc, hns⟩, hTk, hm7, hm8⟩ := id hA
  have hok := hInv.1
  have hM := hok.1
  have hCR := hT.1
  have hcT := hCR.2.1
  have hcS := hCR.2.2.1
  have hcK := hCR.2.2.2.1
  have hcL := hCR.2.2.2.2.1
  have hgp := hm8.2
  have hst3 : ∀ t : Nat, (t : Int) < m 1 → 0 ≤ m (258 + 14 * t) ∧ m (258 + 14 * t) ≤ 2 := fun t ht => (hst2 t ht).1
  have hch : ∃ m1 : Nat, (inW c 2 10 a → chL (hGet h) m1 (g (180 + 2 * a.toNat)) ∧ ∀ f11 f12, stepsInV pool (m (1616 + 72 * a).toNat) (m (1617 + 72 * a).toNat) f11 f12 = m1) ∧ m1 ≤ 1000 := by
    by_cases w : inW c 2 10 a
    · obtain ⟨-, -, -, -, -, -, b1, hi1, n1, P, E, e1, e2, e3, e4⟩ := (hT.2.2 a.toNat (by omega)).1
      obtain ⟨-, -, -, -, -, -, -, -, P2, E2, p1, p2, p0, -, p3, -⟩ := (hTk.2 a.toNat (by omega)).1
      obtain rfl : P2 = P := by omega
      obtain rfl : E2 = E := by omega
      rw [show ((1616 : Int) + 72 * a).toNat = 1616 + 72 * a.toNat by omega, show ((1617 : Int) + 72 * a).toNat = 1617 + 72 * a.toNat by omega, p1, p2]
      obtain ⟨j, j1, j2, j3⟩ := steps_all e4 (hgp.db (by omega)) (hgp.bg (by omega)) (by decide)
      exact ⟨j, fun _ => ⟨by rw [e3]; exact chL_mono hst.hS j _ j1, j3⟩, by omega⟩
    · exact ⟨0, fun z => absurd z w, by omega⟩
  obtain ⟨m1, hr, hm⟩ := hch
  have ec : cnt (nsB c a) K = cnt (shutB m a) K := cnt_congr K (fun q hq => by
    have r := hcS q (by omega)
    unfold nsB shutB
    rw [r.1, r.2.2]
    exact decide_eq_decide.mpr (and_congr Iff.rfl (not_congr swT_is1)))
  have ev : ∀ f11 f12, ofV m pool K a i f11 f12 = (if inW c 2 10 a then (if i = 0 then c (489 + 9 * a.toNat) else if i = 1 then c (490 + 9 * a.toNat) + 100 else if i = 2 then c (491 + 9 * a.toNat) else if i = 3 then c (493 + 9 * a.toNat) else if i = 4 then cnt (nsB c a) K else if i = 5 then c (488 + 9 * a.toNat) else if i = 6 then (if c (496 + 9 * a.toNat) = 0 then 0 else 1) else if i = 7 then (m1 : Int) else -1) else -1) := by
    intro f11 f12
    unfold ofV
    by_cases w : inW c 2 10 a
    · obtain ⟨r1, r2, r3, r4, r5, r6, -⟩ := (hT.2.2 a.toNat (by omega)).1
      obtain ⟨-, -, r8, -⟩ := (hTk.2 a.toNat (by omega)).1
      obtain ⟨s1, s2⟩ := hcK a.toNat (by omega)
      rw [if_pos w, if_pos (show 0 ≤ a ∧ a ≤ m 3 - 1 by omega), (hr w).2 f11 f12, show ((1610 : Int) + 72 * a).toNat = 1610 + 72 * a.toNat by omega, show ((1609 : Int) + 72 * a).toNat = 1609 + 72 * a.toNat by omega, show ((1612 : Int) + 72 * a).toNat = 1612 + 72 * a.toNat by omega, show ((1608 : Int) + 72 * a).toNat = 1608 + 72 * a.toNat by omega, show ((1615 : Int) + 72 * a).toNat = 1615 + 72 * a.toNat by omega, show ((1614 : Int) + 72 * a).toNat = 1614 + 72 * a.toNat by omega, r1, r2, r3, r5, s1, s2, ec]
      have sw : (if m (1614 + 72 * a.toNat) = 0 then (0 : Int) else 1) = m (1614 + 72 * a.toNat) := by
        by_cases z : m (1614 + 72 * a.toNat) = 0
        · rw [if_pos z, z]
        · rw [if_neg z]; omega
      rw [sw]
    · rw [if_neg w, if_neg (by omega)]
  have hX2 : 0 ≤ a ∧ a ≤ m 3 - 1 → 0 ≤ m (1616 + 72 * a).toNat ∧ m (1616 + 72 * a).toNat ≤ m (1617 + 72 * a).toNat ∧ txOk 3 pool pool ft (m (1617 + 72 * a).toNat) := by
    intro w
    obtain ⟨-, -, -, -, -, -, -, -, P2, E2, p1, p2, p0, p4, p3, -⟩ := (hTk.2 a.toNat (by omega)).1
    have := hInv.2.1.2.2
    rw [show ((1616 : Int) + 72 * a).toNat = 1616 + 72 * a.toNat by omega, show ((1617 : Int) + 72 * a).toNat = 1617 + 72 * a.toNat by omega, p1, p2]
    exact ⟨by omega, by omega, Or.inr ⟨rfl, rfl, by omega⟩, by omega, hPo⟩
  have h3 := hok.2.2.2.2.1
  refine TWO.of (dm := 1000) (z := .int (J (ofV m pool K a i 0 0))) (f4' := f4) (m' := m) (kpm' := kpm) (pool' := pool) (zt' := zt) (ft' := ft) (f18' := f18) (pap' := pap) (rwd' := rwd) (rw' := rw) (Nat.le_of_ble_eq_true rfl) (Nat.le_of_ble_eq_true rfl) ⟨_, rfl⟩ hSZ hMH ((kg_of 0 hK hc hC ha hi (fun w => (hr w).1) hm cK K60).mono (fun v h1 q0 => ?_)) (fun h1 hM1 => ?_) hSO.up
  · obtain ⟨q1, rfl⟩ := q0
    exact ⟨by rw [q1, ev 0 0], CP.rf hCH⟩
  · obtain ⟨f14, f16, was, pln, r14, f8, f9, f10, f11, f12, f13, s, r11, hB⟩ := id hM1
    refine ((m_of 0 hB hM h3 mK K60 r11 ha hi hX2).deeper (Nat.le_of_ble_eq_true rfl)).mono (fun v h2 q0 => ?_)
    obtain ⟨q2, q3, q4⟩ := q0
    exact ⟨by rw [q2, ev f11 f12, ev 0 0], ⟨f14, f16, was, pln, r14, q3⟩, q4⟩

/-! ===== plan on both; what is told of the sheets and of steps, whatever it is ===== -/
theorem chL_mono {S S' : Nat → Option mO} (hS : ∀ a o, S a = some o → S' a = some o) : ∀ (n : Nat) (r : Option Nat), chL S n r → chL S' n r
  | 0, _, h => h
  | n + 1, _, ⟨a, kd, num, vl, y, inn, nx, e, h1, h2⟩ => ⟨a, kd, num, vl, y, inn, nx, e, hS a _ h1, chL_mono hS n nx h2⟩
theorem stK_o {S : Nat → Option mO} {sr : Nat → Int} {cl : Nat → Nat → Nat → Nat → Prop} {it : Bool} {o o' a hi p e : Nat} {nx : Option Nat} (k : stK S sr cl it o a nx hi p e o') : (∃ (kd num vl : Int) (y : Int64) (inn : Option Nat), S a = some (stO kd num vl y inn nx)) ∧ p < e := by
  rcases k with ⟨k, -⟩ | ⟨-, -, -, e1, -, num, vl, y, inn, h⟩ | ⟨-, -, -, e1, -, num, vl, y, inn, h⟩
  · refine ⟨?_, stepQ_lt (stQ_t (st := fun _ _ => True) (fun _ _ _ _ => trivial) k)⟩
    rcases k with ⟨-, num, vl, y, inn, h, -⟩ | ⟨-, -, -, -, q, b, y, nx2, h, -⟩
    · exact ⟨_, num, vl, y, inn, h⟩
    · exact ⟨_, _, _, y, _, h⟩
  · exact ⟨⟨_, num, vl, y, inn, h⟩, by omega⟩
  · exact ⟨⟨_, num, vl, y, inn, h⟩, by omega⟩
theorem stL_ch {S : Nat → Option mO} {sr : Nat → Int} : ∀ (n : Nat) (it : Bool) (o a hi p E : Nat), stL S sr n it o a hi p E → ∃ k, chL S k (some a) ∧ p + k ≤ E
  | 0, _, _, _, _, _, _, h => h.elim
  | n + 1, it, o, a, hi, p, E, h => by
    obtain ⟨nx, mid, e, o', h1, h2, h3, h4⟩ := h
    obtain ⟨⟨kd, num, vl, y, inn, h5⟩, h6⟩ := stK_o h1
    rcases h4 with ⟨rfl, rfl⟩ | ⟨h7, -, b, rfl, -, h8⟩
    · exact ⟨1, ⟨a, kd, num, vl, y, inn, none, rfl, h5, rfl⟩, by omega⟩
    · obtain ⟨k, k1, k2⟩ := stL_ch n it o' b hi (e + 1) E h8
      exact ⟨k + 1, ⟨a, kd, num, vl, y, inn, some b, rfl, h5, k1⟩, by omega⟩
theorem tpO_ch {S : Nat → Option mO} {sr : Nat → Int} {r : Option Nat} {P E : Nat} (h : tpO S sr r P E) : ∃ k, chL S k r ∧ P + k ≤ E := by
  rcases h with ⟨rfl, rfl⟩ | ⟨b, hi, n, rfl, h⟩
  · exact ⟨0, rfl, by omega⟩
  · exact stL_ch n _ _ _ _ _ _ h

set_option maxHeartbeats 4000000 in
set_option maxRecDepth 100000 in
theorem two_plan {sg : Bool} {G : mG} {l : Launch} (hG : G.2.map Prod.snd = mTy) {x y n0 : Nat} {h : mH} (hn0 : n0 ≤ 600) (hI : RI sg x y n0 h) {a : Int} (ha : InR a) {i : Int} (hi : InR i) : TWO sg G l x y n0 false mX10_plan mX11_plan [.int (J a), .int (J i)] h := by
  obtain ⟨f4, m, kpm, pool, zt, ft, f18, pap, rwd, rw, hCH, hMH, hSO, hSZ⟩ := hI
  obtain ⟨S, kp, tk, zr, fr, p, e, o, zs, fs, b, fa, c, C, nm, g, hK, ⟨hT, hst, hke, htk⟩, hro, hpa, hxy⟩ := id hCH
  obtain ⟨⟨hA, hPo⟩, hkp, hta, h18, hrw⟩ := id hSO
  obtain ⟨N, K, T, Z, F, hX⟩ := fx_of hT hA
  obtain ⟨⟨mN, cN, N90⟩, ⟨mK, cK, K1, K60⟩, ⟨mT, cT, T10⟩, ⟨cZ, Z150⟩, ⟨⟨c11, c12, c13⟩, F90, c4⟩, ⟨hO, hpR, hpO, hoO⟩, ⟨c8, c9, L0, L90⟩, ⟨hc, hC⟩, hst2, htp⟩ := id hX
  obtain ⟨⟨hInv, hsc, hnc, hns⟩, hTk, hm7, hm8⟩ := id hA
  have hok := hInv.1
  have hM := hok.1
  have hCR := hT.1
  have hcT := hCR.2.1
  have hcS := hCR.2.2.1
  have hcK := hCR.2.2.2.1
  have hcL := hCR.2.2.2.2.1
  have hst3 : ∀ t : Nat, (t : Int) < m 1 → 0 ≤ m (258 + 14 * t) ∧ m (258 + 14 * t) ≤ 2 := fun t ht => (hst2 t ht).1
  obtain ⟨f14, f16, was, pln, r14, f8, f9, f10, f11, f12, f13, s, r11, hB0⟩ := id hMH
  have h6 : InR (m 6 + 1) := by
    have := hInv.2.2.2.2.1
    exact ⟨by omega, by omega⟩
  by_cases w : 0 ≤ a ∧ a ≤ m 0 - 1
  · obtain ⟨p2, k2, pl, k90⟩ := all_plan hA w pln
    obtain ⟨q, rfl⟩ : ∃ q : Nat, a = q := ⟨a.toNat, by omega⟩
    obtain ⟨Z2, hE⟩ := hCR.2.2.2.2.2.1
    obtain rfl : Z2 = Z := by have := hE.1; omega
    have pv := plan_both (m := m) (c := c) (f := C 2) (N := N) (K := K) (Z := Z2) (fun a => ent_of hCR hok hsc hnc hst3 cZ mN mK) mN mK (fun c0 hc0 => by
      have y := hpO (c0 : Int) (by omega) (by omega)
      rw [show ((19 : Int) + 4 * (c0 : Int)).toNat = 19 + 4 * c0 by omega] at y
      exact y.2) (fun j hj hj2 => by
      rcases hE.2.2.1 j hj with ⟨t, e1, e2, -⟩ | ⟨s2, e1, e2, -⟩
      · omega
      · omega) (fun j k hj hk e => by
      have := hE.2.2.2.1 j k hj hk
      rw [e] at this
      omega) (by omega) K60 (s := q) (by omega) pl (i := i)
    refine TWO.of2 (dm := 1000) (z := .int (J (planV p2 k2 i))) (f4' := f4) (m' := m) (kpm' := kpm) (pool' := pool) (zt' := zt) (ft' := ft) (f18' := f18) (pap' := pap) (rwd' := rwd) (rw' := rw) (Nat.le_of_ble_eq_true rfl) (Nat.le_of_ble_eq_true rfl) ⟨_, rfl⟩ hSZ hMH ((kg_plan 0 hK hc hC hO cZ (Nat.le_of_lt Z150) ha hi).mono (fun v h' q0 => ?_)) (fun h1 m1e m1s => ?_) ?_
    · obtain ⟨q1, rfl⟩ := q0
      rw [if_pos ⟨by omega, by omega, by omega⟩, pv] at q1
      exact ⟨q1, CP.rf hCH⟩
    · have hB := hB0.kq m1e m1s
      refine ((m_plan hB hok h6 ha hi k90 (fun _ => pl)).deeper (Nat.le_of_ble_eq_true rfl)).mono (fun v h2 q0 => ?_)
      rcases q0 with ⟨q1, -⟩ | ⟨-, q1, q2, q3⟩
      · exact absurd w q1
      · exact ⟨q1, ⟨f14, (k2 : Int), was, p2, r14, q2.isMs r11⟩, q3⟩
    · exact hSO.up
  · skip
    refine TWO.ask (z := .int (J (-1))) (Nat.le_of_ble_eq_true rfl) (Nat.le_of_ble_eq_true rfl) ⟨_, rfl⟩ hCH hMH hSO hSZ ((kg_plan 0 hK hc hC hO cZ (Nat.le_of_lt Z150) ha hi).mono (fun v h' q0 => ?_)) (fun h1 f8 f9 f10 f11 f12 f13 f14 f16 was pln s r14 r11 hB => (m_plan (p' := pln) (k' := 0) hB hok h6 ha hi (by omega) (fun z => absurd z w)).mono (fun v h2 q0 => ?_))
    · rw [if_neg (fun z => w ⟨by omega, by omega⟩)] at q0
      exact q0
    · rcases q0 with q0 | q0
      · exact ⟨q0.2.1, q0.2.2⟩
      · exact absurd q0.1 w
set_option maxHeartbeats 4000000 in
set_option maxRecDepth 100000 in
theorem jud_paper {sg : Bool} {G : mG} {l : Launch} (hG : G.2.map Prod.snd = mTy) {x y n0 : Nat} {h : mH} (hn0 : n0 ≤ 600) (hI : RI sg x y n0 h) {a : Int} (ha : InR a) : JUD sg G l x y n0 mX10_paper mX11_paper [.int (J a)] h := by
  obtain ⟨f4, m, kpm, pool, zt, ft, f18, pap, rwd, rw, hCH, hMH, hSO, hSZ⟩ := hI
  obtain ⟨S, kp, tk, zr, fr, p, e, o, zs, fs, b, fa, c, C, nm, g, hK, ⟨hT, hst, hke, htk⟩, hro, hpa, hxy⟩ := id hCH
  obtain ⟨⟨hA, hPo⟩, hkp, hta, h18, hrw⟩ := id hSO
  obtain ⟨N, K, T, Z, F, hX⟩ := fx_of hT hA
  obtain ⟨⟨mN, cN, N90⟩, ⟨mK, cK, K1, K60⟩, ⟨mT, cT, T10⟩, ⟨cZ, Z150⟩, ⟨⟨c11, c12, c13⟩, F90, c4⟩, ⟨hO, hpR, hpO, hoO⟩, ⟨c8, c9, L0, L90⟩, ⟨hc, hC⟩, hst2, htp⟩ := id hX
  obtain ⟨⟨hInv, hsc, hnc, hns⟩, hTk, hm7, hm8⟩ := id hA
  have hok := hInv.1
  have hM := hok.1
  have hCR := hT.1
  have hcT := hCR.2.1
  have hcS := hCR.2.2.1
  have hcK := hCR.2.2.2.1
  have hcL := hCR.2.2.2.2.1
  have hst3 : ∀ t : Nat, (t : Int) < m 1 → 0 ≤ m (258 + 14 * t) ∧ m (258 + 14 * t) ≤ 2 := fun t ht => (hst2 t ht).1
  refine ((kg_paper 0 hK hc hC (by have := hpa.1; exact ⟨by omega, by omega⟩) ha).deeper (Nat.le_of_ble_eq_true rfl)).mono (fun v h1 q0 => ?_)
  obtain ⟨q1, rfl⟩ := q0
  refine ⟨_, q1, MDL.rf hMH, ?_⟩
  obtain ⟨f14, f16, was, pln, r14, f8, f9, f10, f11, f12, f13, s, r11, hB⟩ := id hMH
  refine ((m_paper 0 hB ha h18.1 h18.2).deeper (Nat.le_of_ble_eq_true rfl)).mono (fun v h2 q0 => ?_)
  obtain ⟨q2, rfl⟩ := q0
  obtain ⟨z1, z2⟩ := hSZ
  exact ⟨_, q2, ⟨f4, m, kpm, pool, zt, ft, f18, pap, rwd, rw, hCH, hMH, hSO.up, by omega, by omega⟩, rfl, fun _ _ => rfl⟩

set_option maxHeartbeats 4000000 in
set_option maxRecDepth 100000 in
theorem jud_told {sg : Bool} {G : mG} {l : Launch} (hG : G.2.map Prod.snd = mTy) {x y n0 : Nat} {h : mH} (hn0 : n0 ≤ 600) (hI : RI sg x y n0 h) {a : Int} (ha : InR a) : JUD sg G l x y n0 mX10_told mX11_told [.int (J a)] h := by
  obtain ⟨f4, m, kpm, pool, zt, ft, f18, pap, rwd, rw, hCH, hMH, hSO, hSZ⟩ := hI
  obtain ⟨S, kp, tk, zr, fr, p, e, o, zs, fs, b, fa, c, C, nm, g, hK, ⟨hT, hst, hke, htk⟩, hro, hpa, hxy⟩ := id hCH
  obtain ⟨⟨hA, hPo⟩, hkp, hta, h18, hrw⟩ := id hSO
  obtain ⟨N, K, T, Z, F, hX⟩ := fx_of hT hA
  obtain ⟨⟨mN, cN, N90⟩, ⟨mK, cK, K1, K60⟩, ⟨mT, cT, T10⟩, ⟨cZ, Z150⟩, ⟨⟨c11, c12, c13⟩, F90, c4⟩, ⟨hO, hpR, hpO, hoO⟩, ⟨c8, c9, L0, L90⟩, ⟨hc, hC⟩, hst2, htp⟩ := id hX
  obtain ⟨⟨hInv, hsc, hnc, hns⟩, hTk, hm7, hm8⟩ := id hA
  have hok := hInv.1
  have hM := hok.1
  have hCR := hT.1
  have hcT := hCR.2.1
  have hcS := hCR.2.2.1
  have hcK := hCR.2.2.2.1
  have hcL := hCR.2.2.2.2.1
  have hst3 : ∀ t : Nat, (t : Int) < m 1 → 0 ≤ m (258 + 14 * t) ∧ m (258 + 14 * t) ≤ 2 := fun t ht => (hst2 t ht).1
  refine ((kg_told 0 hK hc hC hO cN N90 cT T10 cK K60 ha).deeper (Nat.le_of_ble_eq_true rfl)).mono (fun v h1 q0 => ?_)
  obtain ⟨q1, rfl⟩ := q0
  refine ⟨_, q1, MDL.rf hMH, ?_⟩
  obtain ⟨f14, f16, was, pln, r14, f8, f9, f10, f11, f12, f13, s, r11, hB⟩ := id hMH
  refine ((m_told 0 hB hM mN N90 mK K60 mT T10 ha).deeper (Nat.le_of_ble_eq_true rfl)).mono (fun v h2 q0 => ?_)
  obtain ⟨q2, rfl⟩ := q0
  obtain ⟨z1, z2⟩ := hSZ
  exact ⟨_, q2, ⟨f4, m, kpm, pool, zt, ft, f18, pap, rwd, rw, hCH, hMH, hSO.up, by omega, by omega⟩, rfl, fun _ _ => rfl⟩

set_option maxHeartbeats 4000000 in
set_option maxRecDepth 100000 in
theorem jud_thing {sg : Bool} {G : mG} {l : Launch} (hG : G.2.map Prod.snd = mTy) {x y n0 : Nat} {h : mH} (hn0 : n0 ≤ 600) (hI : RI sg x y n0 h) {a : Int} (ha : InR a) {i : Int} (hi : InR i) : JUD sg G l x y n0 mX10_thing mX11_thing [.int (J a), .int (J i)] h := by
  obtain ⟨f4, m, kpm, pool, zt, ft, f18, pap, rwd, rw, hCH, hMH, hSO, hSZ⟩ := hI
  obtain ⟨S, kp, tk, zr, fr, p, e, o, zs, fs, b, fa, c, C, nm, g, hK, ⟨hT, hst, hke, htk⟩, hro, hpa, hxy⟩ := id hCH
  obtain ⟨⟨hA, hPo⟩, hkp, hta, h18, hrw⟩ := id hSO
  obtain ⟨N, K, T, Z, F, hX⟩ := fx_of hT hA
  obtain ⟨⟨mN, cN, N90⟩, ⟨mK, cK, K1, K60⟩, ⟨mT, cT, T10⟩, ⟨cZ, Z150⟩, ⟨⟨c11, c12, c13⟩, F90, c4⟩, ⟨hO, hpR, hpO, hoO⟩, ⟨c8, c9, L0, L90⟩, ⟨hc, hC⟩, hst2, htp⟩ := id hX
  obtain ⟨⟨hInv, hsc, hnc, hns⟩, hTk, hm7, hm8⟩ := id hA
  have hok := hInv.1
  have hM := hok.1
  have hCR := hT.1
  have hcT := hCR.2.1
  have hcS := hCR.2.2.1
  have hcK := hCR.2.2.2.1
  have hcL := hCR.2.2.2.2.1
  have hst3 : ∀ t : Nat, (t : Int) < m 1 → 0 ≤ m (258 + 14 * t) ∧ m (258 + 14 * t) ≤ 2 := fun t ht => (hst2 t ht).1
  have hch : ∃ m1, (inW c 0 90 a → chL (hGet h) m1 (g (2 * a.toNat))) ∧ m1 ≤ 1000 := by
    by_cases w : inW c 0 90 a
    · obtain ⟨P, E, e1, e2, tp⟩ := hCR.2.2.2.2.2.2.2.1 a.toNat (by omega)
      obtain ⟨k, k1, k2⟩ := tpO_ch tp
      obtain ⟨-, -, -, P2, E2, p1, p2, tx⟩ := hInv.2.2.1 a.toNat (by omega)
      have := tx.2.1
      exact ⟨k, fun _ => chL_mono hst.hS k _ k1, by omega⟩
    · exact ⟨0, fun z => absurd z w, by omega⟩
  obtain ⟨m1, hr, hm⟩ := hch
  have hX2 : 0 ≤ a ∧ a ≤ m 1 - 1 → 0 ≤ m (262 + 14 * a).toNat ∧ m (262 + 14 * a).toNat ≤ m (263 + 14 * a).toNat ∧ txOk 3 pool pool ft (m (263 + 14 * a).toNat) := by
    intro w
    obtain ⟨-, -, -, P2, E2, p1, p2, tx⟩ := hInv.2.2.1 a.toNat (by omega)
    have t1 := tx.1
    have t2 := tx.le hInv.2.1.2.2
    rw [show ((262 : Int) + 14 * a).toNat = 262 + 14 * a.toNat by omega, show ((263 : Int) + 14 * a).toNat = 263 + 14 * a.toNat by omega, p1, p2]
    exact ⟨by omega, by omega, Or.inr ⟨rfl, rfl, by omega⟩, by omega, hPo⟩
  refine ((kg_thing 0 hK hc hC ha hi hr hm).deeper (Nat.le_of_ble_eq_true rfl)).mono (fun v h1 q0 => ?_)
  obtain ⟨q1, rfl⟩ := q0
  refine ⟨_, q1, MDL.rf hMH, ?_⟩
  obtain ⟨f14, f16, was, pln, r14, f8, f9, f10, f11, f12, f13, s, r11, hB⟩ := id hMH
  refine ((m_thing 0 hB hM ⟨by omega, by omega⟩ r11 ha hi hX2).deeper (Nat.le_of_ble_eq_true rfl)).mono (fun v h2 q0 => ?_)
  obtain ⟨q2, q3, q4⟩ := q0
  obtain ⟨z1, z2⟩ := hSZ
  have z3 := q4.2.1
  have z4 := q4.2.2.1
  exact ⟨_, q2, ⟨f4, m, kpm, pool, zt, ft, f18, pap, rwd, rw, hCH.kp (Old.of q4), ⟨f14, f16, was, pln, r14, q3⟩, hSO.up, by omega, by omega⟩, q4.1, fun q hq => q4.2.2.2 q (by unfold mBlk; omega)⟩

set_option maxHeartbeats 4000000 in
set_option maxRecDepth 100000 in
theorem jud_of {sg : Bool} {G : mG} {l : Launch} (hG : G.2.map Prod.snd = mTy) {x y n0 : Nat} {h : mH} (hn0 : n0 ≤ 600) (hI : RI sg x y n0 h) {a : Int} (ha : InR a) {i : Int} (hi : InR i) : JUD sg G l x y n0 mX10_of mX11_of [.int (J a), .int (J i)] h := by
  obtain ⟨f4, m, kpm, pool, zt, ft, f18, pap, rwd, rw, hCH, hMH, hSO, hSZ⟩ := hI
  obtain ⟨S, kp, tk, zr, fr, p, e, o, zs, fs, b, fa, c, C, nm, g, hK, ⟨hT, hst, hke, htk⟩, hro, hpa, hxy⟩ := id hCH
  obtain ⟨⟨hA, hPo⟩, hkp, hta, h18, hrw⟩ := id hSO
  obtain ⟨N, K, T, Z, F, hX⟩ := fx_of hT hA
  obtain ⟨⟨mN, cN, N90⟩, ⟨mK, cK, K1, K60⟩, ⟨mT, cT, T10⟩, ⟨cZ, Z150⟩, ⟨⟨c11, c12, c13⟩, F90, c4⟩, ⟨hO, hpR, hpO, hoO⟩, ⟨c8, c9, L0, L90⟩, ⟨hc, hC⟩, hst2, htp⟩ := id hX
  obtain ⟨⟨hInv, hsc, hnc, hns⟩, hTk, hm7, hm8⟩ := id hA
  have hok := hInv.1
  have hM := hok.1
  have hCR := hT.1
  have hcT := hCR.2.1
  have hcS := hCR.2.2.1
  have hcK := hCR.2.2.2.1
  have hcL := hCR.2.2.2.2.1
  have hst3 : ∀ t : Nat, (t : Int) < m 1 → 0 ≤ m (258 + 14 * t) ∧ m (258 + 14 * t) ≤ 2 := fun t ht => (hst2 t ht).1
  have hch : ∃ m1, (inW c 2 10 a → chL (hGet h) m1 (g (180 + 2 * a.toNat))) ∧ m1 ≤ 1000 := by
    by_cases w : inW c 2 10 a
    · obtain ⟨-, -, -, -, -, -, b1, hi1, n1, P, E, e1, e2, e3, e4⟩ := (hT.2.2 a.toNat (by omega)).1
      obtain ⟨k, k1, k2⟩ := stL_ch _ _ _ _ _ _ _ e4
      obtain ⟨-, -, -, -, -, -, -, -, P2, E2, p1, p2, -, -, p3, -⟩ := (hTk.2 a.toNat (by omega)).1
      exact ⟨k, fun _ => by rw [e3]; exact chL_mono hst.hS k _ k1, by omega⟩
    · exact ⟨0, fun z => absurd z w, by omega⟩
  obtain ⟨m1, hr, hm⟩ := hch
  have hX2 : 0 ≤ a ∧ a ≤ m 3 - 1 → 0 ≤ m (1616 + 72 * a).toNat ∧ m (1616 + 72 * a).toNat ≤ m (1617 + 72 * a).toNat ∧ txOk 3 pool pool ft (m (1617 + 72 * a).toNat) := by
    intro w
    obtain ⟨-, -, -, -, -, -, -, -, P2, E2, p1, p2, p0, p4, p3, -⟩ := (hTk.2 a.toNat (by omega)).1
    have := hInv.2.1.2.2
    rw [show ((1616 : Int) + 72 * a).toNat = 1616 + 72 * a.toNat by omega, show ((1617 : Int) + 72 * a).toNat = 1617 + 72 * a.toNat by omega, p1, p2]
    exact ⟨by omega, by omega, Or.inr ⟨rfl, rfl, by omega⟩, by omega, hPo⟩
  have h3 := hok.2.2.2.2.1
  refine ((kg_of 0 hK hc hC ha hi hr hm cK K60).deeper (Nat.le_of_ble_eq_true rfl)).mono (fun v h1 q0 => ?_)
  obtain ⟨q1, rfl⟩ := q0
  refine ⟨_, q1, MDL.rf hMH, ?_⟩
  obtain ⟨f14, f16, was, pln, r14, f8, f9, f10, f11, f12, f13, s, r11, hB⟩ := id hMH
  refine ((m_of 0 hB hM h3 mK K60 r11 ha hi hX2).deeper (Nat.le_of_ble_eq_true rfl)).mono (fun v h2 q0 => ?_)
  obtain ⟨q2, q3, q4⟩ := q0
  obtain ⟨z1, z2⟩ := hSZ
  have z3 := q4.2.1
  have z4 := q4.2.2.1
  exact ⟨_, q2, ⟨f4, m, kpm, pool, zt, ft, f18, pap, rwd, rw, hCH.kp (Old.of q4), ⟨f14, f16, was, pln, r14, q3⟩, hSO.up, by omega, by omega⟩, q4.1, fun q hq => q4.2.2.2 q (by unfold mBlk; omega)⟩


/-! ===== the calls that only ask, on both ===== -/
section G2
variable {sg : Bool} {G : mG} {l : Launch} {x y n : Nat} {h : mH} {f4 : Int} {m kpm pool : Nat → Int} {zt : Int} {ft : Nat → Int} {f18 : Int} {pap rwd rw : Nat → Int}
theorem TWO.ask {Mc Mm : mM} {args : List Value} {z : Value} {dc dm : Nat} (hdc : dc ≤ 1000) (hdm : dm ≤ 1000) {lg : Bool} (hk : isZ lg z) (hCH : CH sg x y f4 m kpm pool zt ft f18 pap rwd rw h) (hMH : MH y f4 m kpm pool zt ft f18 pap rwd rw h) (hSO : SO n f4 m kpm pool zt ft f18 rwd rw) (hz : SZ y n h)
    (hc : RUNM G l dc Mc (.ref x :: args) h (fun v h' => v = some z ∧ h' = h))
    (hm : ∀ (h1 : mH) (f8 f9 f10 f11 f12 f13 f14 f16 : Int) (was pln : Nat → Int) (s : Nat), InR f14 → (0 ≤ f11 ∧ f11 ≤ 99999) → isM h1 y (mFs y f4 zt f8 f9 f10 f11 f12 f13 f14 f16 f18 s) m kpm was pool ft pln pap rwd rw → RUNM G l dm Mm (.ref y :: args) h1 (fun v h' => v = some z ∧ h' = h1)) : TWO sg G l x y n lg Mc Mm args h := by
  refine TWO.of (pap' := pap) hdc hdm hk hz hMH (hc.mono (fun v h1 q => ⟨q.1, ?_⟩)) (fun h1 hM => ?_) hSO.up
  · obtain ⟨-, rfl⟩ := q
    exact CP.rf hCH
  · obtain ⟨f14, f16, was, pln, r14, f8, f9, f10, f11, f12, f13, s, r11, hB⟩ := id hM
    refine (hm h1 f8 f9 f10 f11 f12 f13 f14 f16 was pln s r14 r11 hB).mono (fun v h2 q => ⟨q.1, ?_⟩)
    obtain ⟨-, rfl⟩ := q
    exact ⟨hM, Same.refl⟩
theorem sw_0 {s : Int} (h : (0 ≤ s ∧ s ≤ 2) ∧ ¬ s = 1) : swT s = if s = 0 then 0 else 1 := by
  unfold swT
  rw [if_neg h.2]
  (repeat' split) <;> omega
end G2
set_option maxHeartbeats 4000000 in
set_option maxRecDepth 100000 in
theorem two_below {sg : Bool} {G : mG} {l : Launch} (hG : G.2.map Prod.snd = mTy) {x y n0 : Nat} {h : mH} (hn0 : n0 ≤ 600) (hI : RI sg x y n0 h) {a : Int} (ha : InR a) {i : Int} (hi : InR i) : TWO sg G l x y n0 false mX10_below mX11_below [.int (J a), .int (J i)] h := by
  obtain ⟨f4, m, kpm, pool, zt, ft, f18, pap, rwd, rw, hCH, hMH, hSO, hSZ⟩ := hI
  obtain ⟨S, kp, tk, zr, fr, p, e, o, zs, fs, b, fa, c, C, nm, g, hK, ⟨hT, hst, hke, htk⟩, hro, hpa, hxy⟩ := id hCH
  obtain ⟨⟨hA, hPo⟩, hkp, hta, h18, hrw⟩ := id hSO
  obtain ⟨N, K, T, Z, F, hX⟩ := fx_of hT hA
  obtain ⟨⟨mN, cN, N90⟩, ⟨mK, cK, K1, K60⟩, ⟨mT, cT, T10⟩, ⟨cZ, Z150⟩, ⟨⟨c11, c12, c13⟩, F90, c4⟩, ⟨hO, hpR, hpO, hoO⟩, ⟨c8, c9, L0, L90⟩, ⟨hc, hC⟩, hst2, htp⟩ := id hX
  obtain ⟨⟨hInv, hsc, hnc, hns⟩, hTk, hm7, hm8⟩ := id hA
  have hok := hInv.1
  have hM := hok.1
  have hCR := hT.1
  have hcT := hCR.2.1
  have hcS := hCR.2.2.1
  have hcK := hCR.2.2.2.1
  have hcL := hCR.2.2.2.2.1
  have hst3 : ∀ t : Nat, (t : Int) < m 1 → 0 ≤ m (258 + 14 * t) ∧ m (258 + 14 * t) ≤ 2 := fun t ht => (hst2 t ht).1
  refine TWO.ask (z := .int (J (belowV m K a i))) (Nat.le_of_ble_eq_true rfl) (Nat.le_of_ble_eq_true rfl) ⟨_, rfl⟩ hCH hMH hSO hSZ ((kg_below 0 hK hc hC hO ha hi).mono (fun v h' q0 => ⟨q0.1.trans ?_, q0.2⟩)) (fun h1 f8 f9 f10 f11 f12 f13 f14 f16 was pln s r14 r11 hB => m_below 0 hB mK K60 hpO ha hi)
  congr 3
  unfold belowV
  by_cases w : (0 ≤ a ∧ a ≤ m 0 - 1) ∧ (0 ≤ i ∧ i ≤ m 0 - 1)
  · rw [if_pos w, if_pos ⟨⟨by omega, by omega, by omega⟩, ⟨by omega, by omega, by omega⟩⟩, wi_be hpR w.2.1 mK K60 (by omega)]
  · rw [if_neg w, if_neg (fun z => w ⟨by omega, by omega⟩)]

set_option maxHeartbeats 4000000 in
set_option maxRecDepth 100000 in
theorem two_youngest {sg : Bool} {G : mG} {l : Launch} (hG : G.2.map Prod.snd = mTy) {x y n0 : Nat} {h : mH} (hn0 : n0 ≤ 600) (hI : RI sg x y n0 h) {a : Int} (ha : InR a) : TWO sg G l x y n0 false mX10_youngest mX11_youngest [.int (J a)] h := by
  obtain ⟨f4, m, kpm, pool, zt, ft, f18, pap, rwd, rw, hCH, hMH, hSO, hSZ⟩ := hI
  obtain ⟨S, kp, tk, zr, fr, p, e, o, zs, fs, b, fa, c, C, nm, g, hK, ⟨hT, hst, hke, htk⟩, hro, hpa, hxy⟩ := id hCH
  obtain ⟨⟨hA, hPo⟩, hkp, hta, h18, hrw⟩ := id hSO
  obtain ⟨N, K, T, Z, F, hX⟩ := fx_of hT hA
  obtain ⟨⟨mN, cN, N90⟩, ⟨mK, cK, K1, K60⟩, ⟨mT, cT, T10⟩, ⟨cZ, Z150⟩, ⟨⟨c11, c12, c13⟩, F90, c4⟩, ⟨hO, hpR, hpO, hoO⟩, ⟨c8, c9, L0, L90⟩, ⟨hc, hC⟩, hst2, htp⟩ := id hX
  obtain ⟨⟨hInv, hsc, hnc, hns⟩, hTk, hm7, hm8⟩ := id hA
  have hok := hInv.1
  have hM := hok.1
  have hCR := hT.1
  have hcT := hCR.2.1
  have hcS := hCR.2.2.1
  have hcK := hCR.2.2.2.1
  have hcL := hCR.2.2.2.2.1
  have hst3 : ∀ t : Nat, (t : Int) < m 1 → 0 ≤ m (258 + 14 * t) ∧ m (258 + 14 * t) ≤ 2 := fun t ht => (hst2 t ht).1
  refine TWO.ask (z := .int (J (youngV m N K a))) (Nat.le_of_ble_eq_true rfl) (Nat.le_of_ble_eq_true rfl) ⟨_, rfl⟩ hCH hMH hSO hSZ ((kg_youngest 0 hK hc hC hO cN N90 ha).mono (fun v h' q0 => ⟨q0.1.trans ?_, q0.2⟩)) (fun h1 f8 f9 f10 f11 f12 f13 f14 f16 was pln s r14 r11 hB => m_youngest 0 hB hM mN N90 mK K60 hpO hoO ha)
  congr 3
  unfold youngV
  by_cases w : 0 ≤ a ∧ a ≤ m 0 - 1
  · rw [if_pos w, if_pos ⟨by omega, by omega, by omega⟩]
    exact yw_eq N (fun t ht => hw_eq hpR hcT w.1 mK K60 (fun t ht => ⟨hst3 t ht, (hst2 t ht).2.2⟩) (by omega))
  · rw [if_neg w, if_neg (fun z => w ⟨by omega, by omega⟩)]

set_option maxHeartbeats 4000000 in
set_option maxRecDepth 100000 in
theorem two_entry {sg : Bool} {G : mG} {l : Launch} (hG : G.2.map Prod.snd = mTy) {x y n0 : Nat} {h : mH} (hn0 : n0 ≤ 600) (hI : RI sg x y n0 h) {a : Int} (ha : InR a) {i : Int} (hi : InR i) : TWO sg G l x y n0 false mX10_entry mX11_entry [.int (J a), .int (J i)] h := by
  obtain ⟨f4, m, kpm, pool, zt, ft, f18, pap, rwd, rw, hCH, hMH, hSO, hSZ⟩ := hI
  obtain ⟨S, kp, tk, zr, fr, p, e, o, zs, fs, b, fa, c, C, nm, g, hK, ⟨hT, hst, hke, htk⟩, hro, hpa, hxy⟩ := id hCH
  obtain ⟨⟨hA, hPo⟩, hkp, hta, h18, hrw⟩ := id hSO
  obtain ⟨N, K, T, Z, F, hX⟩ := fx_of hT hA
  obtain ⟨⟨mN, cN, N90⟩, ⟨mK, cK, K1, K60⟩, ⟨mT, cT, T10⟩, ⟨cZ, Z150⟩, ⟨⟨c11, c12, c13⟩, F90, c4⟩, ⟨hO, hpR, hpO, hoO⟩, ⟨c8, c9, L0, L90⟩, ⟨hc, hC⟩, hst2, htp⟩ := id hX
  obtain ⟨⟨hInv, hsc, hnc, hns⟩, hTk, hm7, hm8⟩ := id hA
  have hok := hInv.1
  have hM := hok.1
  have hCR := hT.1
  have hcT := hCR.2.1
  have hcS := hCR.2.2.1
  have hcK := hCR.2.2.2.1
  have hcL := hCR.2.2.2.2.1
  have hst3 : ∀ t : Nat, (t : Int) < m 1 → 0 ≤ m (258 + 14 * t) ∧ m (258 + 14 * t) ≤ 2 := fun t ht => (hst2 t ht).1
  have h6 : InR (m 6 + 1) := by
    have := hInv.2.2.2.2.1
    exact ⟨by omega, by omega⟩
  refine TWO.ask (z := .int (J (entryV m N K a i))) (Nat.le_of_ble_eq_true rfl) (Nat.le_of_ble_eq_true rfl) ⟨_, rfl⟩ hCH hMH hSO hSZ ((kg_entry 0 hK hc hC cZ (Nat.le_of_lt Z150) ha hi).mono (fun v h' q0 => ⟨q0.1.trans ?_, q0.2⟩)) (fun h1 f8 f9 f10 f11 f12 f13 f14 f16 was pln s r14 r11 hB => m_entry 0 hB hM mN N90 mK K1 K60 ha hi h6)
  congr 3
  by_cases w : 0 ≤ a ∧ a ≤ m 0 - 1
  · rw [if_pos ⟨by omega, by omega, by omega⟩]
    exact entry_both hCR hok hsc hnc hst3 cZ mN mK w
  · rw [if_neg (fun z => w ⟨by omega, by omega⟩)]
    unfold entryV
    rw [if_neg (fun z => w z.1)]

set_option maxHeartbeats 4000000 in
set_option maxRecDepth 100000 in
theorem two_scope {sg : Bool} {G : mG} {l : Launch} (hG : G.2.map Prod.snd = mTy) {x y n0 : Nat} {h : mH} (hn0 : n0 ≤ 600) (hI : RI sg x y n0 h) {a : Int} (ha : InR a) {i : Int} (hi : InR i) : TWO sg G l x y n0 false mX10_scope mX11_scope [.int (J a), .int (J i)] h := by
  obtain ⟨f4, m, kpm, pool, zt, ft, f18, pap, rwd, rw, hCH, hMH, hSO, hSZ⟩ := hI
  obtain ⟨S, kp, tk, zr, fr, p, e, o, zs, fs, b, fa, c, C, nm, g, hK, ⟨hT, hst, hke, htk⟩, hro, hpa, hxy⟩ := id hCH
  obtain ⟨⟨hA, hPo⟩, hkp, hta, h18, hrw⟩ := id hSO
  obtain ⟨N, K, T, Z, F, hX⟩ := fx_of hT hA
  obtain ⟨⟨mN, cN, N90⟩, ⟨mK, cK, K1, K60⟩, ⟨mT, cT, T10⟩, ⟨cZ, Z150⟩, ⟨⟨c11, c12, c13⟩, F90, c4⟩, ⟨hO, hpR, hpO, hoO⟩, ⟨c8, c9, L0, L90⟩, ⟨hc, hC⟩, hst2, htp⟩ := id hX
  obtain ⟨⟨hInv, hsc, hnc, hns⟩, hTk, hm7, hm8⟩ := id hA
  have hok := hInv.1
  have hM := hok.1
  have hCR := hT.1
  have hcT := hCR.2.1
  have hcS := hCR.2.2.1
  have hcK := hCR.2.2.2.1
  have hcL := hCR.2.2.2.2.1
  have hst3 : ∀ t : Nat, (t : Int) < m 1 → 0 ≤ m (258 + 14 * t) ∧ m (258 + 14 * t) ≤ 2 := fun t ht => (hst2 t ht).1
  refine TWO.ask (z := .int (J (scopeV m N K a i))) (Nat.le_of_ble_eq_true rfl) (Nat.le_of_ble_eq_true rfl) ⟨_, rfl⟩ hCH hMH hSO hSZ ((kg_scope 0 hK hc hC hO cN N90 cZ (Nat.le_of_lt Z150) ha hi).mono (fun v h' q0 => ⟨q0.1.trans ?_, q0.2⟩)) (fun h1 f8 f9 f10 f11 f12 f13 f14 f16 was pln s r14 r11 hB => m_scope 0 hB hM mN N90 mK K1 K60 hpO hoO ha hi)
  congr 3
  unfold scopeV
  by_cases w : 0 ≤ a ∧ a ≤ m 0 - 1
  · rw [if_pos w, if_pos ⟨by omega, by omega, by omega⟩]
    obtain ⟨q, rfl⟩ : ∃ q : Nat, a = q := ⟨a.toNat, by omega⟩
    obtain ⟨s1, s2, s3⟩ := hcS q (by omega)
    have s4 := hsc.2.2 q (by omega)
    have s5 := hns q (by omega)
    have s6 := hpR q (by omega)
    rw [show ((q : Int)).toNat = q by omega, show ((18 : Int) + 4 * (q : Int)).toNat = 18 + 4 * q by omega, show ((19 : Int) + 4 * (q : Int)).toNat = 19 + 4 * q by omega, show ((21 : Int) + 4 * (q : Int)).toNat = 21 + 4 * q by omega, s1, s2, s3, s6.1, sw_0 ⟨s4.1, s5⟩, en_eq hCR hok hsc hnc hst3 w.1 cZ mN mK, cnt_congr N (p' := heldInB m K (q : Int)) (fun t ht => hw_eq hpR hcT w.1 mK K60 (fun t ht => ⟨hst3 t ht, (hst2 t ht).2.2⟩) (by omega)), sa_up hpR 60 K (m (19 + 4 * q)) (by omega) (by omega) (by omega)]
  · rw [if_neg w, if_neg (fun z => w ⟨by omega, by omega⟩)]

set_option maxHeartbeats 4000000 in
set_option maxRecDepth 100000 in
theorem two_name {sg : Bool} {G : mG} {l : Launch} (hG : G.2.map Prod.snd = mTy) {x y n0 : Nat} {h : mH} (hn0 : n0 ≤ 600) (hI : RI sg x y n0 h) {a : Int} (ha : InR a) {i : Int} (hi : InR i) : TWO sg G l x y n0 false mX10_name mX11_name [.int (J a), .int (J i)] h := by
  obtain ⟨f4, m, kpm, pool, zt, ft, f18, pap, rwd, rw, hCH, hMH, hSO, hSZ⟩ := hI
  obtain ⟨S, kp, tk, zr, fr, p, e, o, zs, fs, b, fa, c, C, nm, g, hK, ⟨hT, hst, hke, htk⟩, hro, hpa, hxy⟩ := id hCH
  obtain ⟨⟨hA, hPo⟩, hkp, hta, h18, hrw⟩ := id hSO
  obtain ⟨N, K, T, Z, F, hX⟩ := fx_of hT hA
  obtain ⟨⟨mN, cN, N90⟩, ⟨mK, cK, K1, K60⟩, ⟨mT, cT, T10⟩, ⟨cZ, Z150⟩, ⟨⟨c11, c12, c13⟩, F90, c4⟩, ⟨hO, hpR, hpO, hoO⟩, ⟨c8, c9, L0, L90⟩, ⟨hc, hC⟩, hst2, htp⟩ := id hX
  obtain ⟨⟨hInv, hsc, hnc, hns⟩, hTk, hm7, hm8⟩ := id hA
  have hok := hInv.1
  have hM := hok.1
  have hCR := hT.1
  have hcT := hCR.2.1
  have hcS := hCR.2.2.1
  have hcK := hCR.2.2.2.1
  have hcL := hCR.2.2.2.2.1
  have hst3 : ∀ t : Nat, (t : Int) < m 1 → 0 ≤ m (258 + 14 * t) ∧ m (258 + 14 * t) ≤ 2 := fun t ht => (hst2 t ht).1
  have hle : lenOk m := by
    intro t t0 t1
    obtain ⟨q, rfl⟩ : ∃ q : Nat, t = q := ⟨t.toNat, by omega⟩
    have ok := (hcT q (by omega)).2.2.2.2.1
    rw [show ((261 : Int) + 14 * (q : Int)).toNat = 261 + 14 * q by omega]
    omega
  refine TWO.ask (z := .int (J (nameV m a i))) (Nat.le_of_ble_eq_true rfl) (Nat.le_of_ble_eq_true rfl) ⟨_, rfl⟩ hCH hMH hSO hSZ ((kg_name 0 hK hc hC ha hi).mono (fun v h' q0 => ⟨q0.1.trans ?_, q0.2⟩)) (fun h1 f8 f9 f10 f11 f12 f13 f14 f16 was pln s r14 r11 hB => m_name 0 hB hM ⟨by omega, by omega⟩ hle ha hi)
  congr 3
  unfold nameV
  by_cases w : 0 ≤ a ∧ a ≤ m 1 - 1
  · rw [if_pos ⟨by omega, by omega, by omega⟩]
    obtain ⟨q, rfl⟩ : ∃ q : Nat, a = q := ⟨a.toNat, by omega⟩
    have e1 := name_eq hcT (t := q) (by omega)
    have ok := (hcT q (by omega)).2.2.2.2
    rw [show ((q : Int)).toNat = q by omega, e1.1, e1.2 i, show ((261 : Int) + 14 * (q : Int)).toNat = 261 + 14 * q by omega]
    by_cases w2 : i = -1
    · have := ok.1
      rw [if_pos w2, if_pos ⟨w, by omega⟩, if_pos (by omega)]
    · rw [if_neg w2]
      by_cases w3 : 0 ≤ i ∧ i ≤ m (261 + 14 * q) - 1
      · obtain ⟨j, rfl⟩ : ∃ j : Nat, i = j := ⟨i.toNat, by omega⟩
        have lt := ok.2 j (by omega)
        unfold isLt at lt
        rw [if_pos w3, show ((265 : Int) + 14 * (q : Int) + (j : Int)).toNat = 265 + 14 * q + j by omega, if_neg (show ¬ m (265 + 14 * q + j) = 0 by omega), if_pos (show (0 ≤ (q : Int) ∧ (q : Int) ≤ m 1 - 1) ∧ (-1 ≤ (j : Int) ∧ (j : Int) ≤ m (261 + 14 * q) - 1) from ⟨w, by omega, by omega⟩), if_neg (by omega)]
      · rw [if_neg w3, if_pos rfl, if_neg (fun z => w3 (by omega))]
  · rw [if_neg (fun z => w ⟨by omega, by omega⟩), if_neg (fun z => w z.1)]

set_option maxHeartbeats 4000000 in
set_option maxRecDepth 100000 in
theorem two_byName {sg : Bool} {G : mG} {l : Launch} (hG : G.2.map Prod.snd = mTy) {x y n0 : Nat} {h : mH} (hn0 : n0 ≤ 600) (hI : RI sg x y n0 h) {a : Int} (ha : InR a) : TWO sg G l x y n0 false mX10_byName mX11_byName [.int (J a)] h := by
  obtain ⟨f4, m, kpm, pool, zt, ft, f18, pap, rwd, rw, hCH, hMH, hSO, hSZ⟩ := hI
  obtain ⟨S, kp, tk, zr, fr, p, e, o, zs, fs, b, fa, c, C, nm, g, hK, ⟨hT, hst, hke, htk⟩, hro, hpa, hxy⟩ := id hCH
  obtain ⟨⟨hA, hPo⟩, hkp, hta, h18, hrw⟩ := id hSO
  obtain ⟨N, K, T, Z, F, hX⟩ := fx_of hT hA
  obtain ⟨⟨mN, cN, N90⟩, ⟨mK, cK, K1, K60⟩, ⟨mT, cT, T10⟩, ⟨cZ, Z150⟩, ⟨⟨c11, c12, c13⟩, F90, c4⟩, ⟨hO, hpR, hpO, hoO⟩, ⟨c8, c9, L0, L90⟩, ⟨hc, hC⟩, hst2, htp⟩ := id hX
  obtain ⟨⟨hInv, hsc, hnc, hns⟩, hTk, hm7, hm8⟩ := id hA
  have hok := hInv.1
  have hM := hok.1
  have hCR := hT.1
  have hcT := hCR.2.1
  have hcS := hCR.2.2.1
  have hcK := hCR.2.2.2.1
  have hcL := hCR.2.2.2.2.1
  have hst3 : ∀ t : Nat, (t : Int) < m 1 → 0 ≤ m (258 + 14 * t) ∧ m (258 + 14 * t) ≤ 2 := fun t ht => (hst2 t ht).1
  have hnm : ∀ t : Nat, t < N → (0 ≤ m (261 + 14 * t) ∧ m (261 + 14 * t) ≤ 7) ∧ ∀ k : Nat, k < 7 → -200 ≤ m (265 + 14 * t + k) ∧ m (265 + 14 * t + k) ≤ 200 := by
    intro t ht
    have ok := (hcT t (by omega)).2.2.2.2.1
    refine ⟨by omega, fun k hk => ?_⟩
    have := hInv.2.2.2.2.2 t k (by omega) hk
    omega
  refine TWO.ask (z := .int (J (bnL m N a N 0))) (Nat.le_of_ble_eq_true rfl) (Nat.le_of_ble_eq_true rfl) ⟨_, rfl⟩ hCH hMH hSO hSZ ((kg_byName 0 hK hc hC cN N90 ha).mono (fun v h' q0 => ⟨q0.1.trans ?_, q0.2⟩)) (fun h1 f8 f9 f10 f11 f12 f13 f14 f16 was pln s r14 r11 hB => m_byName 0 hB hok mN hnm ha)
  congr 3
  exact hp_eq hcT hst3 mN N 0 (by omega)

set_option maxHeartbeats 4000000 in
set_option maxRecDepth 100000 in
theorem two_log {sg : Bool} {G : mG} {l : Launch} (hG : G.2.map Prod.snd = mTy) {x y n0 : Nat} {h : mH} (hn0 : n0 ≤ 600) (hI : RI sg x y n0 h) {a : Int} (ha : InR a) : TWO sg G l x y n0 false mX10_log mX11_log [.int (J a)] h := by
  obtain ⟨f4, m, kpm, pool, zt, ft, f18, pap, rwd, rw, hCH, hMH, hSO, hSZ⟩ := hI
  obtain ⟨S, kp, tk, zr, fr, p, e, o, zs, fs, b, fa, c, C, nm, g, hK, ⟨hT, hst, hke, htk⟩, hro, hpa, hxy⟩ := id hCH
  obtain ⟨⟨hA, hPo⟩, hkp, hta, h18, hrw⟩ := id hSO
  obtain ⟨N, K, T, Z, F, hX⟩ := fx_of hT hA
  obtain ⟨⟨mN, cN, N90⟩, ⟨mK, cK, K1, K60⟩, ⟨mT, cT, T10⟩, ⟨cZ, Z150⟩, ⟨⟨c11, c12, c13⟩, F90, c4⟩, ⟨hO, hpR, hpO, hoO⟩, ⟨c8, c9, L0, L90⟩, ⟨hc, hC⟩, hst2, htp⟩ := id hX
  obtain ⟨⟨hInv, hsc, hnc, hns⟩, hTk, hm7, hm8⟩ := id hA
  have hok := hInv.1
  have hM := hok.1
  have hCR := hT.1
  have hcT := hCR.2.1
  have hcS := hCR.2.2.1
  have hcK := hCR.2.2.2.1
  have hcL := hCR.2.2.2.2.1
  have hst3 : ∀ t : Nat, (t : Int) < m 1 → 0 ≤ m (258 + 14 * t) ∧ m (258 + 14 * t) ≤ 2 := fun t ht => (hst2 t ht).1
  refine TWO.ask (z := .int (J (logV m a))) (Nat.le_of_ble_eq_true rfl) (Nat.le_of_ble_eq_true rfl) ⟨_, rfl⟩ hCH hMH hSO hSZ ((kg_log 0 hK hc hC ha).mono (fun v h' q0 => ⟨q0.1.trans ?_, q0.2⟩)) (fun h1 f8 f9 f10 f11 f12 f13 f14 f16 was pln s r14 r11 hB => m_log 0 hB ha L0 L90)
  congr 3
  unfold logV
  by_cases w : 0 ≤ a ∧ a ≤ m 2 - 1
  · rw [if_pos w, if_pos ⟨by omega, by omega, by omega⟩, show ((1518 : Int) + a).toNat = 1518 + a.toNat by omega]
    exact hcL.2 a.toNat (by omega)
  · rw [if_neg w, if_neg (fun z => w ⟨by omega, by omega⟩)]

set_option maxHeartbeats 4000000 in
set_option maxRecDepth 100000 in
theorem two_paper {G : mG} {l : Launch} (hG : G.2.map Prod.snd = mTy) {x y n0 : Nat} {h : mH} (hn0 : n0 ≤ 600) (hI : RI true x y n0 h) {a : Int} (ha : InR a) : TWO true G l x y n0 false mX10_paper mX11_paper [.int (J a)] h := by
  obtain ⟨f4, m, kpm, pool, zt, ft, f18, pap, rwd, rw, hCH, hMH, hSO, hSZ⟩ := hI
  obtain ⟨S, kp, tk, zr, fr, p, e, o, zs, fs, b, fa, c, C, nm, g, hK, ⟨hT, hst, hke, htk⟩, hro, hpa, hxy⟩ := id hCH
  obtain ⟨⟨hA, hPo⟩, hkp, hta, h18, hrw⟩ := id hSO
  obtain ⟨N, K, T, Z, F, hX⟩ := fx_of hT hA
  obtain ⟨⟨mN, cN, N90⟩, ⟨mK, cK, K1, K60⟩, ⟨mT, cT, T10⟩, ⟨cZ, Z150⟩, ⟨⟨c11, c12, c13⟩, F90, c4⟩, ⟨hO, hpR, hpO, hoO⟩, ⟨c8, c9, L0, L90⟩, ⟨hc, hC⟩, hst2, htp⟩ := id hX
  obtain ⟨⟨hInv, hsc, hnc, hns⟩, hTk, hm7, hm8⟩ := id hA
  have hok := hInv.1
  have hM := hok.1
  have hCR := hT.1
  have hcT := hCR.2.1
  have hcS := hCR.2.2.1
  have hcK := hCR.2.2.2.1
  have hcL := hCR.2.2.2.2.1
  have hst3 : ∀ t : Nat, (t : Int) < m 1 → 0 ≤ m (258 + 14 * t) ∧ m (258 + 14 * t) ≤ 2 := fun t ht => (hst2 t ht).1
  refine TWO.ask (z := .int (J (paperV f18 pap a))) (Nat.le_of_ble_eq_true rfl) (Nat.le_of_ble_eq_true rfl) ⟨_, rfl⟩ hCH hMH hSO hSZ ((kg_paper 0 hK hc hC (by have := hpa.1; exact ⟨by omega, by omega⟩) ha).mono (fun v h' q0 => ⟨q0.1.trans ?_, q0.2⟩)) (fun h1 f8 f9 f10 f11 f12 f13 f14 f16 was pln s r14 r11 hB => m_paper 0 hB ha h18.1 h18.2)
  congr 3
  unfold paperV
  have e1 := (hpa.2 rfl).1
  by_cases w : 0 ≤ a ∧ a ≤ f18 - 1
  · rw [if_pos w, if_pos ⟨by omega, by omega, by omega⟩]
    exact (hpa.2 rfl).2 a.toNat (by omega)
  · rw [if_neg w, if_neg (fun z => w ⟨by omega, by omega⟩)]

set_option maxHeartbeats 4000000 in
set_option maxRecDepth 100000 in
theorem two_counter {sg : Bool} {G : mG} {l : Launch} (hG : G.2.map Prod.snd = mTy) {x y n0 : Nat} {h : mH} (hn0 : n0 ≤ 600) (hI : RI sg x y n0 h) {a : Int} (ha : InR a) : TWO sg G l x y n0 true mX10_counter mX11_counter [.int (J a)] h := by
  obtain ⟨f4, m, kpm, pool, zt, ft, f18, pap, rwd, rw, hCH, hMH, hSO, hSZ⟩ := hI
  obtain ⟨S, kp, tk, zr, fr, p, e, o, zs, fs, b, fa, c, C, nm, g, hK, ⟨hT, hst, hke, htk⟩, hro, hpa, hxy⟩ := id hCH
  obtain ⟨⟨hA, hPo⟩, hkp, hta, h18, hrw⟩ := id hSO
  obtain ⟨N, K, T, Z, F, hX⟩ := fx_of hT hA
  obtain ⟨⟨mN, cN, N90⟩, ⟨mK, cK, K1, K60⟩, ⟨mT, cT, T10⟩, ⟨cZ, Z150⟩, ⟨⟨c11, c12, c13⟩, F90, c4⟩, ⟨hO, hpR, hpO, hoO⟩, ⟨c8, c9, L0, L90⟩, ⟨hc, hC⟩, hst2, htp⟩ := id hX
  obtain ⟨⟨hInv, hsc, hnc, hns⟩, hTk, hm7, hm8⟩ := id hA
  have hok := hInv.1
  have hM := hok.1
  have hCR := hT.1
  have hcT := hCR.2.1
  have hcS := hCR.2.2.1
  have hcK := hCR.2.2.2.1
  have hcL := hCR.2.2.2.2.1
  have hst3 : ∀ t : Nat, (t : Int) < m 1 → 0 ≤ m (258 + 14 * t) ∧ m (258 + 14 * t) ≤ 2 := fun t ht => (hst2 t ht).1
  refine TWO.ask (z := counterV m a) (Nat.le_of_ble_eq_true rfl) (Nat.le_of_ble_eq_true rfl) (by unfold counterV lgV lgNo; split <;> exact ⟨_, rfl⟩) hCH hMH hSO hSZ ((kg_counter 0 hK hc hC c8 ha).mono (fun v h' q0 => ⟨q0.1.trans ?_, q0.2⟩)) (fun h1 f8 f9 f10 f11 f12 f13 f14 f16 was pln s r14 r11 hB => m_counter 0 hB ha)
  unfold counterV lgV lgNo
  by_cases w : 0 ≤ a ∧ a ≤ 7
  · rw [if_pos w, if_pos (by omega), show ((10 : Int) + a).toNat = 10 + a.toNat by omega, hcL.1 a.toNat (by omega)]
  · rw [if_neg w, if_neg (by omega)]

set_option maxHeartbeats 4000000 in
set_option maxRecDepth 100000 in
theorem two_get {sg : Bool} {G : mG} {l : Launch} (hG : G.2.map Prod.snd = mTy) {x y n0 : Nat} {h : mH} (hn0 : n0 ≤ 600) (hI : RI sg x y n0 h) {a : Int} (ha : InR a) {i : Int} (hi : InR i) : TWO sg G l x y n0 true mX10_get mX11_get [.int (J a), .int (J i)] h := by
  obtain ⟨f4, m, kpm, pool, zt, ft, f18, pap, rwd, rw, hCH, hMH, hSO, hSZ⟩ := hI
  obtain ⟨S, kp, tk, zr, fr, p, e, o, zs, fs, b, fa, c, C, nm, g, hK, ⟨hT, hst, hke, htk⟩, hro, hpa, hxy⟩ := id hCH
  obtain ⟨⟨hA, hPo⟩, hkp, hta, h18, hrw⟩ := id hSO
  obtain ⟨N, K, T, Z, F, hX⟩ := fx_of hT hA
  obtain ⟨⟨mN, cN, N90⟩, ⟨mK, cK, K1, K60⟩, ⟨mT, cT, T10⟩, ⟨cZ, Z150⟩, ⟨⟨c11, c12, c13⟩, F90, c4⟩, ⟨hO, hpR, hpO, hoO⟩, ⟨c8, c9, L0, L90⟩, ⟨hc, hC⟩, hst2, htp⟩ := id hX
  obtain ⟨⟨hInv, hsc, hnc, hns⟩, hTk, hm7, hm8⟩ := id hA
  have hok := hInv.1
  have hM := hok.1
  have hCR := hT.1
  have hcT := hCR.2.1
  have hcS := hCR.2.2.1
  have hcK := hCR.2.2.2.1
  have hcL := hCR.2.2.2.2.1
  have hst3 : ∀ t : Nat, (t : Int) < m 1 → 0 ≤ m (258 + 14 * t) ∧ m (258 + 14 * t) ≤ 2 := fun t ht => (hst2 t ht).1
  refine TWO.ask (z := getV rwd rw a i) (Nat.le_of_ble_eq_true rfl) (Nat.le_of_ble_eq_true rfl) (by unfold getV lgV lgNo; split <;> exact ⟨_, rfl⟩) hCH hMH hSO hSZ ((kg_get 0 hK hc hC (fun q => (hro.1.1 q).1) hro.1.2 ha hi).mono (fun v h' q0 => ⟨q0.1.trans ?_, q0.2⟩)) (fun h1 f8 f9 f10 f11 f12 f13 f14 f16 was pln s r14 r11 hB => m_get 0 hB (fun q => (hrw.1 q).1) ha hi (fun q => (hrw.1 q).2))
  unfold getV lgV lgNo wrongV
  by_cases w : 0 ≤ a ∧ a ≤ 3
  · rw [if_pos w]
    rcases hro.2 a.toNat (by omega) with ⟨r1, r2⟩ | ⟨r1, r2, r3⟩
    · rw [if_pos (show rwd a.toNat < 0 by omega), if_neg (show ¬ ((0 ≤ a ∧ a < 4) ∧ inI 40 (zr a.toNat) i) from fun z => by have := z.2; omega), if_neg (fun z => absurd z.1 (by decide))]
    · rw [if_neg (show ¬ rwd a.toNat < 0 by omega)]
      have r4 := (hro.1.1 a.toNat).2
      by_cases w2 : 0 ≤ i ∧ i ≤ rwd a.toNat - 1
      · rw [if_pos (show (0 ≤ a ∧ a < 4) ∧ inI 40 (zr a.toNat) i from ⟨⟨by omega, by omega⟩, ⟨by omega, by omega, by omega⟩⟩), if_pos (show (0 : Int) = 0 ∧ (0 ≤ i ∧ i ≤ rwd a.toNat - 1) from ⟨rfl, w2⟩), r3 i.toNat (by omega), show ((40 : Int) * a + i).toNat = 40 * a.toNat + i.toNat by omega]
      · rw [if_neg (show ¬ ((0 ≤ a ∧ a < 4) ∧ inI 40 (zr a.toNat) i) from fun z => w2 (by have := z.2; omega)), if_neg (show ¬ ((0 : Int) = 0 ∧ (0 ≤ i ∧ i ≤ rwd a.toNat - 1)) from fun z => w2 z.2)]
  · rw [if_neg w, if_neg (show ¬ ((0 ≤ a ∧ a < 4) ∧ inI 40 (zr a.toNat) i) from fun z => w (by omega)), if_neg (fun z => absurd z.1 (by decide))]

set_option maxHeartbeats 4000000 in
set_option maxRecDepth 100000 in
theorem two_faults {sg : Bool} {G : mG} {l : Launch} (hG : G.2.map Prod.snd = mTy) {x y n0 : Nat} {h : mH} (hn0 : n0 ≤ 600) (hI : RI sg x y n0 h) {a : Int} (ha : InR a) : TWO sg G l x y n0 false mX10_faults mX11_faults [.int (J a)] h := by
  obtain ⟨f4, m, kpm, pool, zt, ft, f18, pap, rwd, rw, hCH, hMH, hSO, hSZ⟩ := hI
  obtain ⟨S, kp, tk, zr, fr, p, e, o, zs, fs, b, fa, c, C, nm, g, hK, ⟨hT, hst, hke, htk⟩, hro, hpa, hxy⟩ := id hCH
  obtain ⟨⟨hA, hPo⟩, hkp, hta, h18, hrw⟩ := id hSO
  obtain ⟨N, K, T, Z, F, hX⟩ := fx_of hT hA
  obtain ⟨⟨mN, cN, N90⟩, ⟨mK, cK, K1, K60⟩, ⟨mT, cT, T10⟩, ⟨cZ, Z150⟩, ⟨⟨c11, c12, c13⟩, F90, c4⟩, ⟨hO, hpR, hpO, hoO⟩, ⟨c8, c9, L0, L90⟩, ⟨hc, hC⟩, hst2, htp⟩ := id hX
  obtain ⟨⟨hInv, hsc, hnc, hns⟩, hTk, hm7, hm8⟩ := id hA
  have hok := hInv.1
  have hM := hok.1
  have hCR := hT.1
  have hcT := hCR.2.1
  have hcS := hCR.2.2.1
  have hcK := hCR.2.2.2.1
  have hcL := hCR.2.2.2.2.1
  have hst3 : ∀ t : Nat, (t : Int) < m 1 → 0 ≤ m (258 + 14 * t) ∧ m (258 + 14 * t) ≤ 2 := fun t ht => (hst2 t ht).1
  obtain ⟨N4, m4⟩ : ∃ q : Nat, m 4 = q := ⟨(m 4).toNat, by have := hok.2.2.2.2.2.1; omega⟩
  have h4 := hok.2.2.2.2.2.1
  have h5 := hok.2.2.2.2.2.2.1
  have h3 := hok.2.2.2.2.1
  refine TWO.ask (z := .int (J (faultsV m N4 a))) (Nat.le_of_ble_eq_true rfl) (Nat.le_of_ble_eq_true rfl) ⟨_, rfl⟩ hCH hMH hSO hSZ ((kg_faults 0 hK hc hC c11 c12 c13 F90 c4 ha).mono (fun v h' q0 => ⟨q0.1.trans ?_, q0.2⟩)) (fun h1 f8 f9 f10 f11 f12 f13 f14 f16 was pln s r14 r11 hB => m_faults 0 hB hM h3 m4 (by omega) ha)
  congr 3
  unfold faultsV
  by_cases w : a = -1 ∨ (0 ≤ a ∧ a ≤ m 3 - 1)
  · rw [if_pos w, if_pos (w.elim Or.inl (fun z => Or.inr ⟨by omega, by omega, by omega⟩))]
    exact fc_eq hCR hT.2 hok w m4 c11
  · rw [if_neg w, if_neg (fun z => w (z.elim Or.inl (fun z => Or.inr ⟨by omega, by omega⟩)))]

set_option maxHeartbeats 4000000 in
set_option maxRecDepth 100000 in
theorem two_fault {sg : Bool} {G : mG} {l : Launch} (hG : G.2.map Prod.snd = mTy) {x y n0 : Nat} {h : mH} (hn0 : n0 ≤ 600) (hI : RI sg x y n0 h) {a : Int} (ha : InR a) {i : Int} (hi : InR i) {u : Int} (hu : InR u) : TWO sg G l x y n0 false mX10_fault mX11_fault [.int (J a), .int (J i), .int (J u)] h := by
  obtain ⟨f4, m, kpm, pool, zt, ft, f18, pap, rwd, rw, hCH, hMH, hSO, hSZ⟩ := hI
  obtain ⟨S, kp, tk, zr, fr, p, e, o, zs, fs, b, fa, c, C, nm, g, hK, ⟨hT, hst, hke, htk⟩, hro, hpa, hxy⟩ := id hCH
  obtain ⟨⟨hA, hPo⟩, hkp, hta, h18, hrw⟩ := id hSO
  obtain ⟨N, K, T, Z, F, hX⟩ := fx_of hT hA
  obtain ⟨⟨mN, cN, N90⟩, ⟨mK, cK, K1, K60⟩, ⟨mT, cT, T10⟩, ⟨cZ, Z150⟩, ⟨⟨c11, c12, c13⟩, F90, c4⟩, ⟨hO, hpR, hpO, hoO⟩, ⟨c8, c9, L0, L90⟩, ⟨hc, hC⟩, hst2, htp⟩ := id hX
  obtain ⟨⟨hInv, hsc, hnc, hns⟩, hTk, hm7, hm8⟩ := id hA
  have hok := hInv.1
  have hM := hok.1
  have hCR := hT.1
  have hcT := hCR.2.1
  have hcS := hCR.2.2.1
  have hcK := hCR.2.2.2.1
  have hcL := hCR.2.2.2.2.1
  have hst3 : ∀ t : Nat, (t : Int) < m 1 → 0 ≤ m (258 + 14 * t) ∧ m (258 + 14 * t) ≤ 2 := fun t ht => (hst2 t ht).1
  obtain ⟨N4, m4⟩ : ∃ q : Nat, m 4 = q := ⟨(m 4).toNat, by have := hok.2.2.2.2.2.1; omega⟩
  have h4 := hok.2.2.2.2.2.1
  have h5 := hok.2.2.2.2.2.2.1
  have h3 := hok.2.2.2.2.1
  refine TWO.ask (z := .int (J (faultV m N4 a i u))) (Nat.le_of_ble_eq_true rfl) (Nat.le_of_ble_eq_true rfl) ⟨_, rfl⟩ hCH hMH hSO hSZ ((kg_fault 0 hK hc hC c11 c12 c13 F90 c4 ha hi hu).mono (fun v h' q0 => ⟨q0.1.trans ?_, q0.2⟩)) (fun h1 f8 f9 f10 f11 f12 f13 f14 f16 was pln s r14 r11 hB => m_fault 0 hB hM h3 m4 (by omega) h5 ha hi hu)
  congr 3
  unfold faultV
  by_cases w : a = -1 ∨ (0 ≤ a ∧ a ≤ m 3 - 1)
  · rw [if_pos (w.elim Or.inl (fun z => Or.inr ⟨by omega, by omega, by omega⟩)), fc_eq hCR hT.2 hok w m4 c11]
    by_cases w2 : (0 ≤ u ∧ u ≤ 1) ∧ (0 ≤ i ∧ i ≤ manyV m N4 a - 1)
    · have e1 := fn_eq hCR hT.2 hok w m4 c11 (k := i) ⟨by omega, by omega⟩
      rw [if_pos (show (0 ≤ i ∧ i < manyV m N4 a) ∧ (u = 0 ∨ u = 1) from ⟨⟨by omega, by omega⟩, by omega⟩), if_pos (show (a = -1 ∨ (0 ≤ a ∧ a ≤ m 3 - 1)) ∧ (0 ≤ u ∧ u ≤ 1) ∧ (0 ≤ i ∧ i ≤ manyV m N4 a - 1) from ⟨w, w2⟩), e1.1, e1.2]
      by_cases w3 : u = 0
      · rw [if_pos w3, w3]
      · rw [if_neg w3, show u = 1 by omega]
    · rw [if_neg (show ¬ ((0 ≤ i ∧ i < manyV m N4 a) ∧ (u = 0 ∨ u = 1)) from fun z => w2 ⟨by omega, by omega⟩), if_neg (fun z => w2 z.2)]
  · rw [if_neg (show ¬ (a = -1 ∨ inW c 2 10 a) from fun z => w (z.elim Or.inl (fun z => Or.inr ⟨by omega, by omega⟩))), if_neg (show ¬ ((0 ≤ i ∧ i < (-1 : Int)) ∧ (u = 0 ∨ u = 1)) from fun z => absurd z.1 (by omega)), if_neg (fun z => w z.1)]

set_option maxHeartbeats 4000000 in
set_option maxRecDepth 100000 in
theorem two_ready {sg : Bool} {G : mG} {l : Launch} (hG : G.2.map Prod.snd = mTy) {x y n0 : Nat} {h : mH} (hn0 : n0 ≤ 600) (hI : RI sg x y n0 h) {a : Int} (ha : InR a) : TWO sg G l x y n0 false mX10_ready mX11_ready [.int (J a)] h := by
  obtain ⟨f4, m, kpm, pool, zt, ft, f18, pap, rwd, rw, hCH, hMH, hSO, hSZ⟩ := hI
  obtain ⟨S, kp, tk, zr, fr, p, e, o, zs, fs, b, fa, c, C, nm, g, hK, ⟨hT, hst, hke, htk⟩, hro, hpa, hxy⟩ := id hCH
  obtain ⟨⟨hA, hPo⟩, hkp, hta, h18, hrw⟩ := id hSO
  obtain ⟨N, K, T, Z, F, hX⟩ := fx_of hT hA
  obtain ⟨⟨mN, cN, N90⟩, ⟨mK, cK, K1, K60⟩, ⟨mT, cT, T10⟩, ⟨cZ, Z150⟩, ⟨⟨c11, c12, c13⟩, F90, c4⟩, ⟨hO, hpR, hpO, hoO⟩, ⟨c8, c9, L0, L90⟩, ⟨hc, hC⟩, hst2, htp⟩ := id hX
  obtain ⟨⟨hInv, hsc, hnc, hns⟩, hTk, hm7, hm8⟩ := id hA
  have hok := hInv.1
  have hM := hok.1
  have hCR := hT.1
  have hcT := hCR.2.1
  have hcS := hCR.2.2.1
  have hcK := hCR.2.2.2.1
  have hcL := hCR.2.2.2.2.1
  have hst3 : ∀ t : Nat, (t : Int) < m 1 → 0 ≤ m (258 + 14 * t) ∧ m (258 + 14 * t) ≤ 2 := fun t ht => (hst2 t ht).1
  refine TWO.ask (z := .int (J (readyV m T a))) (Nat.le_of_ble_eq_true rfl) (Nat.le_of_ble_eq_true rfl) ⟨_, rfl⟩ hCH hMH hSO hSZ ((kg_ready 0 hK hc hC cT T10 ha).mono (fun v h' q0 => ⟨q0.1.trans ?_, q0.2⟩)) (fun h1 f8 f9 f10 f11 f12 f13 f14 f16 was pln s r14 r11 hB => m_ready 0 hB hM mT T10 htp ha)
  congr 3
  unfold readyV
  by_cases w : a < 0
  · rw [if_pos w, if_pos w]
  · rw [if_neg w, if_neg w]
    exact rp_eq hcK hT.2 mT T 0 (by omega)

set_option maxHeartbeats 4000000 in
set_option maxRecDepth 100000 in
theorem two_told {G : mG} {l : Launch} (hG : G.2.map Prod.snd = mTy) {x y n0 : Nat} {h : mH} (hn0 : n0 ≤ 600) (hI : RI true x y n0 h) {a : Int} (ha : InR a) : TWO true G l x y n0 false mX10_told mX11_told [.int (J a)] h := by
  obtain ⟨f4, m, kpm, pool, zt, ft, f18, pap, rwd, rw, hCH, hMH, hSO, hSZ⟩ := hI
  obtain ⟨S, kp, tk, zr, fr, p, e, o, zs, fs, b, fa, c, C, nm, g, hK, ⟨hT, hst, hke, htk⟩, hro, hpa, hxy⟩ := id hCH
  obtain ⟨⟨hA, hPo⟩, hkp, hta, h18, hrw⟩ := id hSO
  obtain ⟨N, K, T, Z, F, hX⟩ := fx_of hT hA
  obtain ⟨⟨mN, cN, N90⟩, ⟨mK, cK, K1, K60⟩, ⟨mT, cT, T10⟩, ⟨cZ, Z150⟩, ⟨⟨c11, c12, c13⟩, F90, c4⟩, ⟨hO, hpR, hpO, hoO⟩, ⟨c8, c9, L0, L90⟩, ⟨hc, hC⟩, hst2, htp⟩ := id hX
  obtain ⟨⟨hInv, hsc, hnc, hns⟩, hTk, hm7, hm8⟩ := id hA
  have hok := hInv.1
  have hM := hok.1
  have hCR := hT.1
  have hcT := hCR.2.1
  have hcS := hCR.2.2.1
  have hcK := hCR.2.2.2.1
  have hcL := hCR.2.2.2.2.1
  have hst3 : ∀ t : Nat, (t : Int) < m 1 → 0 ≤ m (258 + 14 * t) ∧ m (258 + 14 * t) ≤ 2 := fun t ht => (hst2 t ht).1
  refine TWO.ask (z := .int (J (toldV m zt f18 N K T a))) (Nat.le_of_ble_eq_true rfl) (Nat.le_of_ble_eq_true rfl) ⟨_, rfl⟩ hCH hMH hSO hSZ ((kg_told 0 hK hc hC hO cN N90 cT T10 cK K60 ha).mono (fun v h' q0 => ⟨q0.1.trans ?_, q0.2⟩)) (fun h1 f8 f9 f10 f11 f12 f13 f14 f16 was pln s r14 r11 hB => m_told 0 hB hM mN N90 mK K60 mT T10 ha)
  congr 3
  unfold toldV
  have e1 : cnt (opW c) K = cnt (openB m) K := cnt_congr K (fun q hq => by
    have s1 := (hcS q (by omega)).1
    have s4 := hsc.2.2 q (by omega)
    unfold opW openB
    rw [s1]
    exact decide_eq_decide.mpr (swT_0 s4.1))
  have e2 : cnt (hwB c 0) N = cnt (heldB m) N := cnt_congr N (fun q hq => by
    have s1 := hw_eq hpR hcT (i := 0) (by decide) mK K60 (fun t ht => ⟨hst3 t ht, (hst2 t ht).2.2⟩) (t := q) (by omega)
    rw [s1]
    unfold heldInB belowB
    have s2 := hst2 q (by omega)
    have s3 := (wi_up hpR (o := 0) (by decide) 60 K (m (259 + 14 * q)) (by omega) (by omega) (by omega)).mp (wi_0 hpR 60 _ (by omega) (by omega) (by omega) (fun a h1 h2 => ((hsc.2.2 a h2).2 h1).1.1))
    rw [s3, decide_eq_true rfl, Bool.and_true])
  rw [e1, e2, ry_eq hcK mT, cK, cN, cT, mK, mN, mT, hT.2.1, c9, (hpa.2 rfl).1]

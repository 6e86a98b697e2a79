/-! ===== what the keeper answers, its state as the model has it (out of the two-sided rows) ===== -/
/-- the keeper at x stands for a state -/
def RO (x y n : Nat) (f4 : Int) (m kpm pool : Nat → Int) (zt : Int) (ft : Nat → Int) (h : mH) : Prop := ∃ (f18 : Int) (pap rwd rw : Nat → Int), CH false x y f4 m kpm pool zt ft f18 pap rwd rw h ∧ SO n f4 m kpm pool zt ft f18 rwd rw
section N0
variable {G : mG} {l : Launch} {x y n0 : Nat} {h : mH} {f4 : Int} {m kpm pool : Nat → Int} {zt : Int} {ft : Nat → Int}
set_option maxHeartbeats 4000000 in
set_option maxRecDepth 100000 in
theorem oa_below (hI : RO x y n0 f4 m kpm pool zt ft h) {a : Int} (ha : InR a) {i : Int} (hi : InR i) : RUNM G l 1000 mX10_below [.ref x, .int (J a), .int (J i)] h (fun v h' => v = some (.int (J (belowV m (m 0).toNat a i))) ∧ h' = h) := by
  obtain ⟨f18, pap, rwd, rw, hCH, hSO⟩ := hI
  obtain ⟨S, kp, tk, zr, fr, p, e, o, zs, fs, b, fa, c, C, nm, g, hK, ⟨hT, hst, hke, htk⟩, hro, hpa, hxy⟩ := id hCH
  obtain ⟨⟨hA, hPo⟩, hkp, hta, h18, hrw⟩ := id hSO
  obtain ⟨N, K, T, Z, F, hX⟩ := fx_of hT hA
  obtain ⟨⟨mN, cN, N90⟩, ⟨mK, cK, K1, K60⟩, ⟨mT, cT, T10⟩, ⟨cZ, Z150⟩, ⟨⟨c11, c12, c13⟩, F90, c4⟩, ⟨hO, hpR, hpO, hoO⟩, ⟨c8, c9, L0, L90⟩, ⟨hc, hC⟩, hst2, htp⟩ := id hX
  obtain ⟨⟨hInv, hsc, hnc, hns⟩, hTk, hm7, hm8⟩ := id hA
  have hok := hInv.1
  have hM := hok.1
  have hCR := hT.1
  have hcT := hCR.2.1
  have hcS := hCR.2.2.1
  have hcK := hCR.2.2.2.1
  have hcL := hCR.2.2.2.2.1
  have hst3 : ∀ t : Nat, (t : Int) < m 1 → 0 ≤ m (258 + 14 * t) ∧ m (258 + 14 * t) ≤ 2 := fun t ht => (hst2 t ht).1
  have eN : (m 1).toNat = N := by omega
  have eK : (m 0).toNat = K := by omega
  have eT : (m 3).toNat = T := by omega
  try simp only [eN, eK, eT]
  refine RUNM.deeper (Nat.le_of_ble_eq_true rfl) ((kg_below 0 hK hc hC hO ha hi).mono (fun v h' q0 => ⟨q0.1.trans ?_, q0.2⟩))
  congr 3
  unfold belowV
  by_cases w : (0 ≤ a ∧ a ≤ m 0 - 1) ∧ (0 ≤ i ∧ i ≤ m 0 - 1)
  · rw [if_pos w, if_pos ⟨⟨by omega, by omega, by omega⟩, ⟨by omega, by omega, by omega⟩⟩, wi_be hpR w.2.1 mK K60 (by omega)]
  · rw [if_neg w, if_neg (fun z => w ⟨by omega, by omega⟩)]
set_option maxHeartbeats 4000000 in
set_option maxRecDepth 100000 in
theorem oa_youngest (hI : RO x y n0 f4 m kpm pool zt ft h) {a : Int} (ha : InR a) : RUNM G l 1000 mX10_youngest [.ref x, .int (J a)] h (fun v h' => v = some (.int (J (youngV m (m 1).toNat (m 0).toNat a))) ∧ h' = h) := by
  obtain ⟨f18, pap, rwd, rw, hCH, hSO⟩ := hI
  obtain ⟨S, kp, tk, zr, fr, p, e, o, zs, fs, b, fa, c, C, nm, g, hK, ⟨hT, hst, hke, htk⟩, hro, hpa, hxy⟩ := id hCH
  obtain ⟨⟨hA, hPo⟩, hkp, hta, h18, hrw⟩ := id hSO
  obtain ⟨N, K, T, Z, F, hX⟩ := fx_of hT hA
  obtain ⟨⟨mN, cN, N90⟩, ⟨mK, cK, K1, K60⟩, ⟨mT, cT, T10⟩, ⟨cZ, Z150⟩, ⟨⟨c11, c12, c13⟩, F90, c4⟩, ⟨hO, hpR, hpO, hoO⟩, ⟨c8, c9, L0, L90⟩, ⟨hc, hC⟩, hst2, htp⟩ := id hX
  obtain ⟨⟨hInv, hsc, hnc, hns⟩, hTk, hm7, hm8⟩ := id hA
  have hok := hInv.1
  have hM := hok.1
  have hCR := hT.1
  have hcT := hCR.2.1
  have hcS := hCR.2.2.1
  have hcK := hCR.2.2.2.1
  have hcL := hCR.2.2.2.2.1
  have hst3 : ∀ t : Nat, (t : Int) < m 1 → 0 ≤ m (258 + 14 * t) ∧ m (258 + 14 * t) ≤ 2 := fun t ht => (hst2 t ht).1
  have eN : (m 1).toNat = N := by omega
  have eK : (m 0).toNat = K := by omega
  have eT : (m 3).toNat = T := by omega
  try simp only [eN, eK, eT]
  refine RUNM.deeper (Nat.le_of_ble_eq_true rfl) ((kg_youngest 0 hK hc hC hO cN N90 ha).mono (fun v h' q0 => ⟨q0.1.trans ?_, q0.2⟩))
  congr 3
  unfold youngV
  by_cases w : 0 ≤ a ∧ a ≤ m 0 - 1
  · rw [if_pos w, if_pos ⟨by omega, by omega, by omega⟩]
    exact yw_eq N (fun t ht => hw_eq hpR hcT w.1 mK K60 (fun t ht => ⟨hst3 t ht, (hst2 t ht).2.2⟩) (by omega))
  · rw [if_neg w, if_neg (fun z => w ⟨by omega, by omega⟩)]
set_option maxHeartbeats 4000000 in
set_option maxRecDepth 100000 in
theorem oa_scope (hI : RO x y n0 f4 m kpm pool zt ft h) {a : Int} (ha : InR a) {i : Int} (hi : InR i) : RUNM G l 1000 mX10_scope [.ref x, .int (J a), .int (J i)] h (fun v h' => v = some (.int (J (scopeV m (m 1).toNat (m 0).toNat a i))) ∧ h' = h) := by
  obtain ⟨f18, pap, rwd, rw, hCH, hSO⟩ := hI
  obtain ⟨S, kp, tk, zr, fr, p, e, o, zs, fs, b, fa, c, C, nm, g, hK, ⟨hT, hst, hke, htk⟩, hro, hpa, hxy⟩ := id hCH
  obtain ⟨⟨hA, hPo⟩, hkp, hta, h18, hrw⟩ := id hSO
  obtain ⟨N, K, T, Z, F, hX⟩ := fx_of hT hA
  obtain ⟨⟨mN, cN, N90⟩, ⟨mK, cK, K1, K60⟩, ⟨mT, cT, T10⟩, ⟨cZ, Z150⟩, ⟨⟨c11, c12, c13⟩, F90, c4⟩, ⟨hO, hpR, hpO, hoO⟩, ⟨c8, c9, L0, L90⟩, ⟨hc, hC⟩, hst2, htp⟩ := id hX
  obtain ⟨⟨hInv, hsc, hnc, hns⟩, hTk, hm7, hm8⟩ := id hA
  have hok := hInv.1
  have hM := hok.1
  have hCR := hT.1
  have hcT := hCR.2.1
  have hcS := hCR.2.2.1
  have hcK := hCR.2.2.2.1
  have hcL := hCR.2.2.2.2.1
  have hst3 : ∀ t : Nat, (t : Int) < m 1 → 0 ≤ m (258 + 14 * t) ∧ m (258 + 14 * t) ≤ 2 := fun t ht => (hst2 t ht).1
  have eN : (m 1).toNat = N := by omega
  have eK : (m 0).toNat = K := by omega
  have eT : (m 3).toNat = T := by omega
  try simp only [eN, eK, eT]
  refine RUNM.deeper (Nat.le_of_ble_eq_true rfl) ((kg_scope 0 hK hc hC hO cN N90 cZ (Nat.le_of_lt Z150) ha hi).mono (fun v h' q0 => ⟨q0.1.trans ?_, q0.2⟩))
  congr 3
  unfold scopeV
  by_cases w : 0 ≤ a ∧ a ≤ m 0 - 1
  · rw [if_pos w, if_pos ⟨by omega, by omega, by omega⟩]
    obtain ⟨q, rfl⟩ : ∃ q : Nat, a = q := ⟨a.toNat, by omega⟩
    obtain ⟨s1, s2, s3⟩ := hcS q (by omega)
    have s4 := hsc.2.2 q (by omega)
    have s5 := hns q (by omega)
    have s6 := hpR q (by omega)
    rw [show ((q : Int)).toNat = q by omega, show ((18 : Int) + 4 * (q : Int)).toNat = 18 + 4 * q by omega, show ((19 : Int) + 4 * (q : Int)).toNat = 19 + 4 * q by omega, show ((21 : Int) + 4 * (q : Int)).toNat = 21 + 4 * q by omega, s1, s2, s3, s6.1, sw_0 ⟨s4.1, s5⟩, en_eq hCR hok hsc hnc hst3 w.1 cZ mN mK, cnt_congr N (p' := heldInB m K (q : Int)) (fun t ht => hw_eq hpR hcT w.1 mK K60 (fun t ht => ⟨hst3 t ht, (hst2 t ht).2.2⟩) (by omega)), sa_up hpR 60 K (m (19 + 4 * q)) (by omega) (by omega) (by omega)]
  · rw [if_neg w, if_neg (fun z => w ⟨by omega, by omega⟩)]
set_option maxHeartbeats 4000000 in
set_option maxRecDepth 100000 in
theorem oa_ready (hI : RO x y n0 f4 m kpm pool zt ft h) {a : Int} (ha : InR a) : RUNM G l 1000 mX10_ready [.ref x, .int (J a)] h (fun v h' => v = some (.int (J (readyV m (m 3).toNat a))) ∧ h' = h) := by
  obtain ⟨f18, pap, rwd, rw, hCH, hSO⟩ := hI
  obtain ⟨S, kp, tk, zr, fr, p, e, o, zs, fs, b, fa, c, C, nm, g, hK, ⟨hT, hst, hke, htk⟩, hro, hpa, hxy⟩ := id hCH
  obtain ⟨⟨hA, hPo⟩, hkp, hta, h18, hrw⟩ := id hSO
  obtain ⟨N, K, T, Z, F, hX⟩ := fx_of hT hA
  obtain ⟨⟨mN, cN, N90⟩, ⟨mK, cK, K1, K60⟩, ⟨mT, cT, T10⟩, ⟨cZ, Z150⟩, ⟨⟨c11, c12, c13⟩, F90, c4⟩, ⟨hO, hpR, hpO, hoO⟩, ⟨c8, c9, L0, L90⟩, ⟨hc, hC⟩, hst2, htp⟩ := id hX
  obtain ⟨⟨hInv, hsc, hnc, hns⟩, hTk, hm7, hm8⟩ := id hA
  have hok := hInv.1
  have hM := hok.1
  have hCR := hT.1
  have hcT := hCR.2.1
  have hcS := hCR.2.2.1
  have hcK := hCR.2.2.2.1
  have hcL := hCR.2.2.2.2.1
  have hst3 : ∀ t : Nat, (t : Int) < m 1 → 0 ≤ m (258 + 14 * t) ∧ m (258 + 14 * t) ≤ 2 := fun t ht => (hst2 t ht).1
  have eN : (m 1).toNat = N := by omega
  have eK : (m 0).toNat = K := by omega
  have eT : (m 3).toNat = T := by omega
  try simp only [eN, eK, eT]
  refine RUNM.deeper (Nat.le_of_ble_eq_true rfl) ((kg_ready 0 hK hc hC cT T10 ha).mono (fun v h' q0 => ⟨q0.1.trans ?_, q0.2⟩))
  congr 3
  unfold readyV
  by_cases w : a < 0
  · rw [if_pos w, if_pos w]
  · rw [if_neg w, if_neg w]
    exact rp_eq hcK hT.2 mT T 0 (by omega)
set_option maxHeartbeats 4000000 in
set_option maxRecDepth 100000 in
theorem oa_log (hI : RO x y n0 f4 m kpm pool zt ft h) {a : Int} (ha : InR a) : RUNM G l 1000 mX10_log [.ref x, .int (J a)] h (fun v h' => v = some (.int (J (logV m a))) ∧ h' = h) := by
  obtain ⟨f18, pap, rwd, rw, hCH, hSO⟩ := hI
  obtain ⟨S, kp, tk, zr, fr, p, e, o, zs, fs, b, fa, c, C, nm, g, hK, ⟨hT, hst, hke, htk⟩, hro, hpa, hxy⟩ := id hCH
  obtain ⟨⟨hA, hPo⟩, hkp, hta, h18, hrw⟩ := id hSO
  obtain ⟨N, K, T, Z, F, hX⟩ := fx_of hT hA
  obtain ⟨⟨mN, cN, N90⟩, ⟨mK, cK, K1, K60⟩, ⟨mT, cT, T10⟩, ⟨cZ, Z150⟩, ⟨⟨c11, c12, c13⟩, F90, c4⟩, ⟨hO, hpR, hpO, hoO⟩, ⟨c8, c9, L0, L90⟩, ⟨hc, hC⟩, hst2, htp⟩ := id hX
  obtain ⟨⟨hInv, hsc, hnc, hns⟩, hTk, hm7, hm8⟩ := id hA
  have hok := hInv.1
  have hM := hok.1
  have hCR := hT.1
  have hcT := hCR.2.1
  have hcS := hCR.2.2.1
  have hcK := hCR.2.2.2.1
  have hcL := hCR.2.2.2.2.1
  have hst3 : ∀ t : Nat, (t : Int) < m 1 → 0 ≤ m (258 + 14 * t) ∧ m (258 + 14 * t) ≤ 2 := fun t ht => (hst2 t ht).1
  have eN : (m 1).toNat = N := by omega
  have eK : (m 0).toNat = K := by omega
  have eT : (m 3).toNat = T := by omega
  try simp only [eN, eK, eT]
  refine RUNM.deeper (Nat.le_of_ble_eq_true rfl) ((kg_log 0 hK hc hC ha).mono (fun v h' q0 => ⟨q0.1.trans ?_, q0.2⟩))
  congr 3
  unfold logV
  by_cases w : 0 ≤ a ∧ a ≤ m 2 - 1
  · rw [if_pos w, if_pos ⟨by omega, by omega, by omega⟩, show ((1518 : Int) + a).toNat = 1518 + a.toNat by omega]
    exact hcL.2 a.toNat (by omega)
  · rw [if_neg w, if_neg (fun z => w ⟨by omega, by omega⟩)]
set_option maxHeartbeats 4000000 in
set_option maxRecDepth 100000 in
theorem oa_name (hI : RO x y n0 f4 m kpm pool zt ft h) {a : Int} (ha : InR a) {i : Int} (hi : InR i) : RUNM G l 1000 mX10_name [.ref x, .int (J a), .int (J i)] h (fun v h' => v = some (.int (J (nameV m a i))) ∧ h' = h) := by
  obtain ⟨f18, pap, rwd, rw, hCH, hSO⟩ := hI
  obtain ⟨S, kp, tk, zr, fr, p, e, o, zs, fs, b, fa, c, C, nm, g, hK, ⟨hT, hst, hke, htk⟩, hro, hpa, hxy⟩ := id hCH
  obtain ⟨⟨hA, hPo⟩, hkp, hta, h18, hrw⟩ := id hSO
  obtain ⟨N, K, T, Z, F, hX⟩ := fx_of hT hA
  obtain ⟨⟨mN, cN, N90⟩, ⟨mK, cK, K1, K60⟩, ⟨mT, cT, T10⟩, ⟨cZ, Z150⟩, ⟨⟨c11, c12, c13⟩, F90, c4⟩, ⟨hO, hpR, hpO, hoO⟩, ⟨c8, c9, L0, L90⟩, ⟨hc, hC⟩, hst2, htp⟩ := id hX
  obtain ⟨⟨hInv, hsc, hnc, hns⟩, hTk, hm7, hm8⟩ := id hA
  have hok := hInv.1
  have hM := hok.1
  have hCR := hT.1
  have hcT := hCR.2.1
  have hcS := hCR.2.2.1
  have hcK := hCR.2.2.2.1
  have hcL := hCR.2.2.2.2.1
  have hst3 : ∀ t : Nat, (t : Int) < m 1 → 0 ≤ m (258 + 14 * t) ∧ m (258 + 14 * t) ≤ 2 := fun t ht => (hst2 t ht).1
  have eN : (m 1).toNat = N := by omega
  have eK : (m 0).toNat = K := by omega
  have eT : (m 3).toNat = T := by omega
  try simp only [eN, eK, eT]
  have hle : lenOk m := by
    intro t t0 t1
    obtain ⟨q, rfl⟩ : ∃ q : Nat, t = q := ⟨t.toNat, by omega⟩
    have ok := (hcT q (by omega)).2.2.2.2.1
    rw [show ((261 : Int) + 14 * (q : Int)).toNat = 261 + 14 * q by omega]
    omega
  refine RUNM.deeper (Nat.le_of_ble_eq_true rfl) ((kg_name 0 hK hc hC ha hi).mono (fun v h' q0 => ⟨q0.1.trans ?_, q0.2⟩))
  congr 3
  unfold nameV
  by_cases w : 0 ≤ a ∧ a ≤ m 1 - 1
  · rw [if_pos ⟨by omega, by omega, by omega⟩]
    obtain ⟨q, rfl⟩ : ∃ q : Nat, a = q := ⟨a.toNat, by omega⟩
    have e1 := name_eq hcT (t := q) (by omega)
    have ok := (hcT q (by omega)).2.2.2.2
    rw [show ((q : Int)).toNat = q by omega, e1.1, e1.2 i, show ((261 : Int) + 14 * (q : Int)).toNat = 261 + 14 * q by omega]
    by_cases w2 : i = -1
    · have := ok.1
      rw [if_pos w2, if_pos ⟨w, by omega⟩, if_pos (by omega)]
    · rw [if_neg w2]
      by_cases w3 : 0 ≤ i ∧ i ≤ m (261 + 14 * q) - 1
      · obtain ⟨j, rfl⟩ : ∃ j : Nat, i = j := ⟨i.toNat, by omega⟩
        have lt := ok.2 j (by omega)
        unfold isLt at lt
        rw [if_pos w3, show ((265 : Int) + 14 * (q : Int) + (j : Int)).toNat = 265 + 14 * q + j by omega, if_neg (show ¬ m (265 + 14 * q + j) = 0 by omega), if_pos (show (0 ≤ (q : Int) ∧ (q : Int) ≤ m 1 - 1) ∧ (-1 ≤ (j : Int) ∧ (j : Int) ≤ m (261 + 14 * q) - 1) from ⟨w, by omega, by omega⟩), if_neg (by omega)]
      · rw [if_neg w3, if_pos rfl, if_neg (fun z => w3 (by omega))]
  · rw [if_neg (fun z => w ⟨by omega, by omega⟩), if_neg (fun z => w z.1)]
set_option maxHeartbeats 4000000 in
set_option maxRecDepth 100000 in
theorem oa_byName (hI : RO x y n0 f4 m kpm pool zt ft h) {a : Int} (ha : InR a) : RUNM G l 1000 mX10_byName [.ref x, .int (J a)] h (fun v h' => v = some (.int (J (bnL m (m 1).toNat a (m 1).toNat 0))) ∧ h' = h) := by
  obtain ⟨f18, pap, rwd, rw, hCH, hSO⟩ := hI
  obtain ⟨S, kp, tk, zr, fr, p, e, o, zs, fs, b, fa, c, C, nm, g, hK, ⟨hT, hst, hke, htk⟩, hro, hpa, hxy⟩ := id hCH
  obtain ⟨⟨hA, hPo⟩, hkp, hta, h18, hrw⟩ := id hSO
  obtain ⟨N, K, T, Z, F, hX⟩ := fx_of hT hA
  obtain ⟨⟨mN, cN, N90⟩, ⟨mK, cK, K1, K60⟩, ⟨mT, cT, T10⟩, ⟨cZ, Z150⟩, ⟨⟨c11, c12, c13⟩, F90, c4⟩, ⟨hO, hpR, hpO, hoO⟩, ⟨c8, c9, L0, L90⟩, ⟨hc, hC⟩, hst2, htp⟩ := id hX
  obtain ⟨⟨hInv, hsc, hnc, hns⟩, hTk, hm7, hm8⟩ := id hA
  have hok := hInv.1
  have hM := hok.1
  have hCR := hT.1
  have hcT := hCR.2.1
  have hcS := hCR.2.2.1
  have hcK := hCR.2.2.2.1
  have hcL := hCR.2.2.2.2.1
  have hst3 : ∀ t : Nat, (t : Int) < m 1 → 0 ≤ m (258 + 14 * t) ∧ m (258 + 14 * t) ≤ 2 := fun t ht => (hst2 t ht).1
  have eN : (m 1).toNat = N := by omega
  have eK : (m 0).toNat = K := by omega
  have eT : (m 3).toNat = T := by omega
  try simp only [eN, eK, eT]
  have hnm : ∀ t : Nat, t < N → (0 ≤ m (261 + 14 * t) ∧ m (261 + 14 * t) ≤ 7) ∧ ∀ k : Nat, k < 7 → -200 ≤ m (265 + 14 * t + k) ∧ m (265 + 14 * t + k) ≤ 200 := by
    intro t ht
    have ok := (hcT t (by omega)).2.2.2.2.1
    refine ⟨by omega, fun k hk => ?_⟩
    have := hInv.2.2.2.2.2 t k (by omega) hk
    omega
  refine RUNM.deeper (Nat.le_of_ble_eq_true rfl) ((kg_byName 0 hK hc hC cN N90 ha).mono (fun v h' q0 => ⟨q0.1.trans ?_, q0.2⟩))
  congr 3
  exact hp_eq hcT hst3 mN N 0 (by omega)
set_option maxHeartbeats 4000000 in
set_option maxRecDepth 100000 in
theorem oa_counter (hI : RO x y n0 f4 m kpm pool zt ft h) {a : Int} (ha : InR a) : RUNM G l 1000 mX10_counter [.ref x, .int (J a)] h (fun v h' => v = some (counterV m a) ∧ h' = h) := by
  obtain ⟨f18, pap, rwd, rw, hCH, hSO⟩ := hI
  obtain ⟨S, kp, tk, zr, fr, p, e, o, zs, fs, b, fa, c, C, nm, g, hK, ⟨hT, hst, hke, htk⟩, hro, hpa, hxy⟩ := id hCH
  obtain ⟨⟨hA, hPo⟩, hkp, hta, h18, hrw⟩ := id hSO
  obtain ⟨N, K, T, Z, F, hX⟩ := fx_of hT hA
  obtain ⟨⟨mN, cN, N90⟩, ⟨mK, cK, K1, K60⟩, ⟨mT, cT, T10⟩, ⟨cZ, Z150⟩, ⟨⟨c11, c12, c13⟩, F90, c4⟩, ⟨hO, hpR, hpO, hoO⟩, ⟨c8, c9, L0, L90⟩, ⟨hc, hC⟩, hst2, htp⟩ := id hX
  obtain ⟨⟨hInv, hsc, hnc, hns⟩, hTk, hm7, hm8⟩ := id hA
  have hok := hInv.1
  have hM := hok.1
  have hCR := hT.1
  have hcT := hCR.2.1
  have hcS := hCR.2.2.1
  have hcK := hCR.2.2.2.1
  have hcL := hCR.2.2.2.2.1
  have hst3 : ∀ t : Nat, (t : Int) < m 1 → 0 ≤ m (258 + 14 * t) ∧ m (258 + 14 * t) ≤ 2 := fun t ht => (hst2 t ht).1
  have eN : (m 1).toNat = N := by omega
  have eK : (m 0).toNat = K := by omega
  have eT : (m 3).toNat = T := by omega
  try simp only [eN, eK, eT]
  refine RUNM.deeper (Nat.le_of_ble_eq_true rfl) ((kg_counter 0 hK hc hC c8 ha).mono (fun v h' q0 => ⟨q0.1.trans ?_, q0.2⟩))
  unfold counterV lgV lgNo
  by_cases w : 0 ≤ a ∧ a ≤ 7
  · rw [if_pos w, if_pos (by omega), show ((10 : Int) + a).toNat = 10 + a.toNat by omega, hcL.1 a.toNat (by omega)]
  · rw [if_neg w, if_neg (by omega)]
set_option maxHeartbeats 4000000 in
set_option maxRecDepth 100000 in
theorem oa_told (hI : RO x y n0 f4 m kpm pool zt ft h) {a : Int} (ha : InR a) (h9 : ¬ a = 9) : RUNM G l 1000 mX10_told [.ref x, .int (J a)] h (fun v h' => v = some (.int (J (toldV m zt 0 (m 1).toNat (m 0).toNat (m 3).toNat a))) ∧ h' = h) := by
  obtain ⟨f18, pap, rwd, rw, hCH, hSO⟩ := hI
  obtain ⟨S, kp, tk, zr, fr, p, e, o, zs, fs, b, fa, c, C, nm, g, hK, ⟨hT, hst, hke, htk⟩, hro, hpa, hxy⟩ := id hCH
  obtain ⟨⟨hA, hPo⟩, hkp, hta, h18, hrw⟩ := id hSO
  obtain ⟨N, K, T, Z, F, hX⟩ := fx_of hT hA
  obtain ⟨⟨mN, cN, N90⟩, ⟨mK, cK, K1, K60⟩, ⟨mT, cT, T10⟩, ⟨cZ, Z150⟩, ⟨⟨c11, c12, c13⟩, F90, c4⟩, ⟨hO, hpR, hpO, hoO⟩, ⟨c8, c9, L0, L90⟩, ⟨hc, hC⟩, hst2, htp⟩ := id hX
  obtain ⟨⟨hInv, hsc, hnc, hns⟩, hTk, hm7, hm8⟩ := id hA
  have hok := hInv.1
  have hM := hok.1
  have hCR := hT.1
  have hcT := hCR.2.1
  have hcS := hCR.2.2.1
  have hcK := hCR.2.2.2.1
  have hcL := hCR.2.2.2.2.1
  have hst3 : ∀ t : Nat, (t : Int) < m 1 → 0 ≤ m (258 + 14 * t) ∧ m (258 + 14 * t) ≤ 2 := fun t ht => (hst2 t ht).1
  have eN : (m 1).toNat = N := by omega
  have eK : (m 0).toNat = K := by omega
  have eT : (m 3).toNat = T := by omega
  try simp only [eN, eK, eT]
  refine RUNM.deeper (Nat.le_of_ble_eq_true rfl) ((kg_told 0 hK hc hC hO cN N90 cT T10 cK K60 ha).mono (fun v h' q0 => ⟨q0.1.trans ?_, q0.2⟩))
  congr 3
  unfold toldV
  have e1 : cnt (opW c) K = cnt (openB m) K := cnt_congr K (fun q hq => by
    have s1 := (hcS q (by omega)).1
    have s4 := hsc.2.2 q (by omega)
    unfold opW openB
    rw [s1]
    exact decide_eq_decide.mpr (swT_0 s4.1))
  have e2 : cnt (hwB c 0) N = cnt (heldB m) N := cnt_congr N (fun q hq => by
    have s1 := hw_eq hpR hcT (i := 0) (by decide) mK K60 (fun t ht => ⟨hst3 t ht, (hst2 t ht).2.2⟩) (t := q) (by omega)
    rw [s1]
    unfold heldInB belowB
    have s2 := hst2 q (by omega)
    have s3 := (wi_up hpR (o := 0) (by decide) 60 K (m (259 + 14 * q)) (by omega) (by omega) (by omega)).mp (wi_0 hpR 60 _ (by omega) (by omega) (by omega) (fun a h1 h2 => ((hsc.2.2 a h2).2 h1).1.1))
    rw [s3, decide_eq_true rfl, Bool.and_true])
  rw [e1, e2, ry_eq hcK mT, cK, cN, cT, mK, mN, mT, hT.2.1, c9, if_neg h9, if_neg h9]
set_option maxHeartbeats 4000000 in
set_option maxRecDepth 100000 in
theorem oa_plan (hI : RO x y n0 f4 m kpm pool zt ft h) {q : Nat} (hq : (q : Int) < m 0) (pln : Nat → Int) : ∃ (p2 : Nat → Int) (k2 : Nat), plR m 61 q pln 0 p2 k2 ∧ k2 ≤ 90 ∧ ∀ {i : Int}, InR i → RUNM G l 1000 mX10_plan [.ref x, .int (J (q : Int)), .int (J i)] h (fun v h' => v = some (.int (J (planV p2 k2 i))) ∧ h' = h) := by
  obtain ⟨f18, pap, rwd, rw, hCH, hSO⟩ := hI
  obtain ⟨S, kp, tk, zr, fr, p, e, o, zs, fs, b, fa, c, C, nm, g, hK, ⟨hT, hst, hke, htk⟩, hro, hpa, hxy⟩ := id hCH
  obtain ⟨⟨hA, hPo⟩, hkp, hta, h18, hrw⟩ := id hSO
  obtain ⟨N, K, T, Z, F, hX⟩ := fx_of hT hA
  obtain ⟨⟨mN, cN, N90⟩, ⟨mK, cK, K1, K60⟩, ⟨mT, cT, T10⟩, ⟨cZ, Z150⟩, ⟨⟨c11, c12, c13⟩, F90, c4⟩, ⟨hO, hpR, hpO, hoO⟩, ⟨c8, c9, L0, L90⟩, ⟨hc, hC⟩, hst2, htp⟩ := id hX
  obtain ⟨⟨hInv, hsc, hnc, hns⟩, hTk, hm7, hm8⟩ := id hA
  have hok := hInv.1
  have hM := hok.1
  have hCR := hT.1
  have hcT := hCR.2.1
  have hcS := hCR.2.2.1
  have hcK := hCR.2.2.2.1
  have hcL := hCR.2.2.2.2.1
  have hst3 : ∀ t : Nat, (t : Int) < m 1 → 0 ≤ m (258 + 14 * t) ∧ m (258 + 14 * t) ≤ 2 := fun t ht => (hst2 t ht).1
  have w : 0 ≤ (q : Int) ∧ (q : Int) ≤ m 0 - 1 := ⟨by omega, by omega⟩
  have ha : InR (q : Int) := ⟨by omega, by omega⟩
  obtain ⟨p2, k2, pl, k90⟩ := all_plan hA w pln
  obtain ⟨Z2, hE⟩ := hCR.2.2.2.2.2.1
  obtain rfl : Z2 = Z := by have := hE.1; omega
  have pv := fun i => plan_both (m := m) (c := c) (f := C 2) (N := N) (K := K) (Z := Z2) (fun a => ent_of hCR hok hsc hnc hst3 cZ mN mK) mN mK (fun c0 hc0 => by
    have y := hpO (c0 : Int) (by omega) (by omega)
    rw [show ((19 : Int) + 4 * (c0 : Int)).toNat = 19 + 4 * c0 by omega] at y
    exact y.2) (fun j hj hj2 => by
    rcases hE.2.2.1 j hj with ⟨t, e1, e2, -⟩ | ⟨s2, e1, e2, -⟩
    · omega
    · omega) (fun j k hj hk e => by
    have := hE.2.2.2.1 j k hj hk
    rw [e] at this
    omega) (by omega) K60 (s := q) (by omega) pl (i := i)
  refine ⟨p2, k2, pl, k90, fun {i} hi => RUNM.deeper (Nat.le_of_ble_eq_true rfl) ((kg_plan 0 hK hc hC hO cZ (Nat.le_of_lt Z150) ha hi).mono (fun v h' q0 => ?_))⟩
  obtain ⟨q1, rfl⟩ := q0
  rw [if_pos ⟨by omega, by omega, by omega⟩, pv] at q1
  exact ⟨q1, rfl⟩
end N0

/-! ===== the keeper's changing calls, each by what it leaves (by program out of the two-sided rows) ===== -/
section N1
variable {G : mG} {l : Launch} {x y n : Nat} {h : mH} {f4 : Int} {m kpm pool : Nat → Int} {zt : Int} {ft : Nat → Int} {f18 : Int} {pap rwd rw : Nat → Int}
/-- all as it was -/
def SM (f4 : Int) (m kpm pool : Nat → Int) (zt : Int) (ft : Nat → Int) (f4' : Int) (m' kpm' pool' : Nat → Int) (zt' : Int) (ft' : Nat → Int) : Prop := f4' = f4 ∧ m' = m ∧ kpm' = kpm ∧ pool' = pool ∧ zt' = zt ∧ ft' = ft
theorem SM.rf : SM f4 m kpm pool zt ft f4 m kpm pool zt ft := ⟨rfl, rfl, rfl, rfl, rfl, rfl⟩
/-- all but the row m -/
def MC (f4 : Int) (kpm pool : Nat → Int) (zt : Int) (ft : Nat → Int) (f4' : Int) (kpm' pool' : Nat → Int) (zt' : Int) (ft' : Nat → Int) : Prop := f4' = f4 ∧ kpm' = kpm ∧ pool' = pool ∧ zt' = zt ∧ ft' = ft
theorem MC.rf : MC f4 kpm pool zt ft f4 kpm pool zt ft := ⟨rfl, rfl, rfl, rfl, rfl⟩
def ONE (G : mG) (l : Launch) (x y n' : Nat) (Mc : mM) (args : List Value) (h : mH) (F : mH → Prop) (R : Int → Int → (Nat → Int) → (Nat → Int) → (Nat → Int) → Int → (Nat → Int) → Prop) : Prop :=
  RUNM G l 1000 Mc (.ref x :: args) h (fun v h' => ∃ (z f4' : Int) (m' kpm' pool' : Nat → Int) (zt' : Int) (ft' : Nat → Int), v = some (.int (J z)) ∧ R z f4' m' kpm' pool' zt' ft' ∧ RO x y n' f4' m' kpm' pool' zt' ft' h' ∧ F h' ∧ (h'.1 = h.1 ∧ ∀ b, b < x → hGet h' b = hGet h b) ∧ h'.2.1 ≤ h.2.1 + 400 ∧ h'.2.2.1 ≤ h.2.2.1 + 6000)
theorem ONE.of {Mc : mM} {args : List Value} {z : Int} {dc n' : Nat} {F : mH → Prop} {R : Int → Int → (Nat → Int) → (Nat → Int) → (Nat → Int) → Int → (Nat → Int) → Prop} (hdc : dc ≤ 1000) {f4' : Int} {m' kpm' pool' : Nat → Int} {zt' : Int} {ft' : Nat → Int} {f18' : Int} {pap' rwd' rw' : Nat → Int}
    (hc : RUNM G l dc Mc (.ref x :: args) h (fun v h1 => v = some (.int (J z)) ∧ F h1 ∧ CP false x y f4' m' kpm' pool' zt' ft' f18' pap' rwd' rw' h h1)) (hR : R z f4' m' kpm' pool' zt' ft') (hs : SO n' f4' m' kpm' pool' zt' ft' f18' rwd' rw') : ONE G l x y n' Mc args h F R :=
  (hc.deeper hdc).mono (fun v h1 q => ⟨z, f4', m', kpm', pool', zt', ft', q.1, hR, ⟨f18', pap', rwd', rw', q.2.2.1, hs⟩, q.2.1, ⟨q.2.2.2.1.1, fun b hb => q.2.2.2.1.2 b (Or.inr hb)⟩, q.2.2.2.2⟩)
theorem ONE.ask {Mc : mM} {args : List Value} {z : Int} {dc n' : Nat} {F : mH → Prop} {R : Int → Int → (Nat → Int) → (Nat → Int) → (Nat → Int) → Int → (Nat → Int) → Prop} (hdc : dc ≤ 1000) (hCH : CH false x y f4 m kpm pool zt ft f18 pap rwd rw h) (hs : SO n' f4 m kpm pool zt ft f18 rwd rw) (hF : F h)
    (hc : RUNM G l dc Mc (.ref x :: args) h (fun v h' => v = some (.int (J z)) ∧ h' = h)) (hR : R z f4 m kpm pool zt ft) : ONE G l x y n' Mc args h F R := by
  refine ONE.of (pap' := pap) hdc (hc.mono (fun v h1 q => ⟨q.1, ?_⟩)) hR hs
  obtain ⟨-, rfl⟩ := q
  exact ⟨hF, CP.rf hCH⟩
theorem SO.tape0 {zt' : Int} {ft' : Nat → Int} (k : SO n f4 m kpm pool zt ft f18 rwd rw) (ht : (0 ≤ zt' ∧ zt' ≤ 120) ∧ bytesOk ft' ∧ ∀ j : Nat, (j : Int) < zt' → 1 ≤ ft' j) : SO n f4 m kpm pool zt' ft' f18 rwd rw := by
  obtain ⟨u1, u2, -, u4, u5⟩ := k
  exact ⟨u1, u2, ht, u4, u5⟩
end N1
set_option maxHeartbeats 4000000 in
set_option maxRecDepth 100000 in
theorem oc_clear {G : mG} {l : Launch} (hG : G.2.map Prod.snd = mTy) {x y n0 : Nat} {h : mH} {f4 : Int} {m kpm pool : Nat → Int} {zt : Int} {ft : Nat → Int} (hn0 : n0 ≤ 600) (hI : RO x y n0 f4 m kpm pool zt ft h) : ONE G l x y n0 mX10_clear [] h (fun h' => Same (kBlk x) h h') (fun z f4' m' kpm' pool' zt' ft' => z = zt ∧ f4' = f4 ∧ m' = m ∧ kpm' = kpm ∧ pool' = pool ∧ zt' = 0 ∧ ft' = ft) := by
  obtain ⟨f18, pap, rwd, rw, hCH, hSO⟩ := hI
  obtain ⟨S, kp, tk, zr, fr, p, e, o, zs, fs, b, fa, c, C, nm, g, hK, ⟨hT, hst, hke, htk⟩, hro, hpa, hxy⟩ := id hCH
  obtain ⟨⟨hA, hPo⟩, hkp, hta, h18, hrw⟩ := id hSO
  obtain ⟨N, K, T, Z, F, hX⟩ := fx_of hT hA
  obtain ⟨⟨mN, cN, N90⟩, ⟨mK, cK, K1, K60⟩, ⟨mT, cT, T10⟩, ⟨cZ, Z150⟩, ⟨⟨c11, c12, c13⟩, F90, c4⟩, ⟨hO, hpR, hpO, hoO⟩, ⟨c8, c9, L0, L90⟩, ⟨hc, hC⟩, hst2, htp⟩ := id hX
  obtain ⟨⟨hInv, hsc, hnc, hns⟩, hTk, hm7, hm8⟩ := id hA
  have hok := hInv.1
  have hM := hok.1
  have hCR := hT.1
  have hcT := hCR.2.1
  have hcS := hCR.2.2.1
  have hcK := hCR.2.2.2.1
  have hcL := hCR.2.2.2.2.1
  have hst3 : ∀ t : Nat, (t : Int) < m 1 → 0 ≤ m (258 + 14 * t) ∧ m (258 + 14 * t) ≤ 2 := fun t ht => (hst2 t ht).1

  refine ONE.of (z := (zt)) (f4' := f4) (m' := m) (kpm' := kpm) (pool' := pool) (zt' := 0) (ft' := ft) (f18' := f18) (pap' := pap) (rwd' := rwd) (rw' := rw) (Nat.le_of_ble_eq_true rfl) ((kg_clear 0 hK hc hC).mono (fun v h' q0 => ?_)) ?_ ?_
  · obtain ⟨q1, q2, q3⟩ := q0
    exact ⟨q1, q3, CP.of hxy q3 q2 hT hst hke htk hro hpa⟩
  · exact ⟨rfl, rfl, rfl, rfl, rfl, rfl, rfl⟩
  · exact hSO.tape0 ⟨⟨by omega, by omega⟩, hta.2.1, fun j hj => by omega⟩
set_option maxHeartbeats 4000000 in
set_option maxRecDepth 100000 in
theorem oc_feed {G : mG} {l : Launch} (hG : G.2.map Prod.snd = mTy) {x y n0 : Nat} {h : mH} {f4 : Int} {m kpm pool : Nat → Int} {zt : Int} {ft : Nat → Int} (hn0 : n0 ≤ 600) (hI : RO x y n0 f4 m kpm pool zt ft h) {a : Int} (ha : InR a) : ONE G l x y n0 mX10_feed [.int (J a)] h (fun h' => Same (kBlk x) h h') (fun z f4' m' kpm' pool' zt' ft' => (1 ≤ a ∧ a ≤ 127) ∧ ¬ zt = 120 → z = zt + 1 ∧ f4' = f4 ∧ m' = m ∧ kpm' = kpm ∧ pool' = pool ∧ zt' = zt + 1 ∧ ft' = updI ft zt.toNat a) := by
  obtain ⟨f18, pap, rwd, rw, hCH, hSO⟩ := hI
  obtain ⟨S, kp, tk, zr, fr, p, e, o, zs, fs, b, fa, c, C, nm, g, hK, ⟨hT, hst, hke, htk⟩, hro, hpa, hxy⟩ := id hCH
  obtain ⟨⟨hA, hPo⟩, hkp, hta, h18, hrw⟩ := id hSO
  obtain ⟨N, K, T, Z, F, hX⟩ := fx_of hT hA
  obtain ⟨⟨mN, cN, N90⟩, ⟨mK, cK, K1, K60⟩, ⟨mT, cT, T10⟩, ⟨cZ, Z150⟩, ⟨⟨c11, c12, c13⟩, F90, c4⟩, ⟨hO, hpR, hpO, hoO⟩, ⟨c8, c9, L0, L90⟩, ⟨hc, hC⟩, hst2, htp⟩ := id hX
  obtain ⟨⟨hInv, hsc, hnc, hns⟩, hTk, hm7, hm8⟩ := id hA
  have hok := hInv.1
  have hM := hok.1
  have hCR := hT.1
  have hcT := hCR.2.1
  have hcS := hCR.2.2.1
  have hcK := hCR.2.2.2.1
  have hcL := hCR.2.2.2.2.1
  have hst3 : ∀ t : Nat, (t : Int) < m 1 → 0 ≤ m (258 + 14 * t) ∧ m (258 + 14 * t) ≤ 2 := fun t ht => (hst2 t ht).1
  have rzt : InR zt := ⟨by omega, by omega⟩
  by_cases w : 1 ≤ a ∧ a ≤ 127
  · by_cases w2 : zt = 120
    · have ev : feedV zt a = -4 := by unfold feedV; rw [if_pos w, if_pos w2]
      refine ONE.of (z := (-4)) (f4' := f4) (m' := m) (kpm' := kpm) (pool' := pool) (zt' := zt) (ft' := ft) (f18' := f18) (pap' := pap) (rwd' := rwd) (rw' := rw) (Nat.le_of_ble_eq_true rfl) ((kg_feed 0 hK hc hC ha rzt).mono (fun v h' q0 => ?_)) ?_ ?_
      · rcases q0 with ⟨q1, -⟩ | ⟨-, q1, q2, q3⟩
        · exact absurd w q1
        · rw [if_neg (by omega)] at q1 q2
          rw [if_neg (by omega)] at q2
          exact ⟨q1, q3, CP.of hxy q3 q2 hT hst hke htk hro hpa⟩
      · exact fun z => absurd w2 z.2
      · exact hSO
    · have ev : feedV zt a = zt + 1 := by unfold feedV; rw [if_pos w, if_neg w2]
      refine ONE.of (z := (zt + 1)) (f4' := f4) (m' := m) (kpm' := kpm) (pool' := pool) (zt' := zt + 1) (ft' := updI ft zt.toNat a) (f18' := f18) (pap' := pap) (rwd' := rwd) (rw' := rw) (Nat.le_of_ble_eq_true rfl) ((kg_feed 0 hK hc hC ha rzt).mono (fun v h' q0 => ?_)) ?_ ?_
      · rcases q0 with ⟨q1, -⟩ | ⟨-, q1, q2, q3⟩
        · exact absurd w q1
        · rw [if_pos (by omega)] at q1 q2
          rw [if_pos (by omega)] at q2
          exact ⟨q1, q3, CP.of hxy q3 q2 hT hst hke htk hro hpa⟩
      · exact fun _ => ⟨rfl, rfl, rfl, rfl, rfl, rfl, rfl⟩
      · refine hSO.tape0 ⟨⟨by omega, by omega⟩, fun j => ?_, fun j hj => ?_⟩
        · unfold updI; split
          · omega
          · exact hta.2.1 j
        · by_cases e : j = zt.toNat
          · rw [e, updI_s]; omega
          · rw [updI_n e]; exact hta.2.2 j (by omega)
  · have ev : feedV zt a = -2 := by unfold feedV; rw [if_neg w]
    refine ONE.ask (z := -2) (Nat.le_of_ble_eq_true rfl) hCH hSO Same.refl ((kg_feed 0 hK hc hC ha rzt).mono (fun v h' q0 => ?_)) ?_
    · rcases q0 with ⟨-, q1, q2⟩ | ⟨q1, -⟩
      · exact ⟨q1, q2⟩
      · exact absurd q1 w
    · exact fun z => absurd z.1 w
set_option maxHeartbeats 4000000 in
set_option maxRecDepth 100000 in
theorem oc_open {G : mG} {l : Launch} (hG : G.2.map Prod.snd = mTy) {x y n0 : Nat} {h : mH} {f4 : Int} {m kpm pool : Nat → Int} {zt : Int} {ft : Nat → Int} (hn0 : n0 ≤ 600) (hI : RO x y n0 f4 m kpm pool zt ft h) {a : Int} (ha : InR a) : ONE G l x y (n0 + 1) mX10_open [.int (J a)] h (fun h' => Same (kBlk x) h h') (fun z f4' m' kpm' pool' zt' ft' => ((-9 ≤ z ∧ z < 0) ∧ SM f4 m kpm pool zt ft f4' m' kpm' pool' zt' ft') ∨ (∃ K q : Nat, m 0 = K ∧ a = q ∧ K < 60 ∧ q < K ∧ m (18 + 4 * q) = 0 ∧ z = K ∧ m' = opensM m K q (-5) ∧ MC f4 kpm pool zt ft f4' kpm' pool' zt' ft')) := by
  obtain ⟨f18, pap, rwd, rw, hCH, hSO⟩ := hI
  obtain ⟨S, kp, tk, zr, fr, p, e, o, zs, fs, b, fa, c, C, nm, g, hK, ⟨hT, hst, hke, htk⟩, hro, hpa, hxy⟩ := id hCH
  obtain ⟨⟨hA, hPo⟩, hkp, hta, h18, hrw⟩ := id hSO
  obtain ⟨N, K, T, Z, F, hX⟩ := fx_of hT hA
  obtain ⟨⟨mN, cN, N90⟩, ⟨mK, cK, K1, K60⟩, ⟨mT, cT, T10⟩, ⟨cZ, Z150⟩, ⟨⟨c11, c12, c13⟩, F90, c4⟩, ⟨hO, hpR, hpO, hoO⟩, ⟨c8, c9, L0, L90⟩, ⟨hc, hC⟩, hst2, htp⟩ := id hX
  obtain ⟨⟨hInv, hsc, hnc, hns⟩, hTk, hm7, hm8⟩ := id hA
  have hok := hInv.1
  have hM := hok.1
  have hCR := hT.1
  have hcT := hCR.2.1
  have hcS := hCR.2.2.1
  have hcK := hCR.2.2.2.1
  have hcL := hCR.2.2.2.2.1
  have hst3 : ∀ t : Nat, (t : Int) < m 1 → 0 ≤ m (258 + 14 * t) ∧ m (258 + 14 * t) ≤ 2 := fun t ht => (hst2 t ht).1
  by_cases w : 0 ≤ a ∧ a ≤ m 0 - 1
  · skip
    obtain ⟨q, rfl⟩ : ∃ q : Nat, a = q := ⟨a.toNat, by omega⟩
    have e18 : ((18 : Int) + 4 * (q : Int)).toNat = 18 + 4 * q := by omega
    have eq : ((q : Int)).toNat = q := by omega
    have s0 : c (304 + 3 * q) = 0 ↔ m (18 + 4 * q) = 0 := by rw [(hcS q (by omega)).1]; exact swT_0 (hsc.2.2 q (by omega)).1
    have hop : openP m (q : Int) ↔ m (18 + 4 * q) = 0 := ⟨fun z => by have := z.2.2; rwa [e18] at this, fun z => ⟨w.1, w.2, by rw [e18]; exact z⟩⟩
    by_cases w2 : m (18 + 4 * q) = 0
    · have w4 := s0.mpr w2
      by_cases w3 : K = 60
      · have ev : openV m q = -4 := by unfold openV; rw [if_pos w, if_pos (hop.mpr w2), if_pos (by omega)]
        refine ONE.ask (z := -4) (Nat.le_of_ble_eq_true rfl) hCH hSO.up Same.refl ((kg_open 0 hK hc hC ha cK cZ Z150).mono (fun v h' q0 => ?_)) ?_
        · rw [eq] at q0
          rcases q0 with q0 | q0 | q0 | q0
          all_goals first | (exfalso; omega) | exact ⟨q0.2.1, q0.2.2⟩ | exact ⟨q0.2.2.1, q0.2.2.2⟩
        · exact Or.inl ⟨by decide, SM.rf⟩
      · have ev : openV m q = K := by unfold openV; rw [if_pos w, if_pos (hop.mpr w2), if_neg (by omega), mK]
        refine ONE.of (z := ((K : Int))) (f4' := f4) (m' := opensM m K q (-5)) (kpm' := kpm) (pool' := pool) (zt' := zt) (ft' := ft) (f18' := f18) (pap' := pap) (rwd' := rwd) (rw' := rw) (Nat.le_of_ble_eq_true rfl) ((kg_open 0 hK hc hC ha cK cZ Z150).mono (fun v h' q0 => ?_)) ?_ ?_
        · rw [eq] at q0
          rcases q0 with q0 | q0 | q0 | ⟨-, -, q1, q2, q3⟩
          · exfalso; omega
          · exfalso; omega
          · exfalso; omega
          · exact ⟨q1, q3, CP.of hxy q3 q2 (ctr_open hT hTk hok mK (by omega) K1 (by omega) (by decide) cZ) hst hke htk hro hpa⟩
        · exact Or.inr ⟨K, q, mK, rfl, by omega, by omega, w2, rfl, rfl, MC.rf⟩
        · refine hSO.mm ((hA.opens mK (by omega) (by omega) w2 (by decide) (by omega)).up (by omega) (by omega)) ?_
          unfold opensM
          (repeat rw [updI_n (by omega)])
    · have w4 : ¬ c (304 + 3 * q) = 0 := fun z => w2 (s0.mp z)
      have ev : openV m q = -3 := by unfold openV; rw [if_pos w, if_neg (fun z => w2 (hop.mp z))]
      refine ONE.ask (z := -3) (Nat.le_of_ble_eq_true rfl) hCH hSO.up Same.refl ((kg_open 0 hK hc hC ha cK cZ Z150).mono (fun v h' q0 => ?_)) ?_
      · rw [eq] at q0
        rcases q0 with q0 | q0 | q0 | q0
        all_goals first | (exfalso; omega) | exact ⟨q0.2.1, q0.2.2⟩ | exact ⟨q0.2.2.1, q0.2.2.2⟩
      · exact Or.inl ⟨by decide, SM.rf⟩
  · have ev : openV m a = -1 := by unfold openV; rw [if_neg w]
    refine ONE.ask (z := -1) (Nat.le_of_ble_eq_true rfl) hCH hSO.up Same.refl ((kg_open 0 hK hc hC ha cK cZ Z150).mono (fun v h' q0 => ?_)) ?_
    · rcases q0 with q0 | q0 | q0 | q0
      all_goals first | (exfalso; omega) | exact ⟨q0.2.1, q0.2.2⟩ | exact ⟨q0.2.2.1, q0.2.2.2⟩
    · exact Or.inl ⟨by decide, SM.rf⟩
set_option maxHeartbeats 4000000 in
set_option maxRecDepth 100000 in
theorem oc_move {G : mG} {l : Launch} (hG : G.2.map Prod.snd = mTy) {x y n0 : Nat} {h : mH} {f4 : Int} {m kpm pool : Nat → Int} {zt : Int} {ft : Nat → Int} (hn0 : n0 ≤ 600) (hI : RO x y n0 f4 m kpm pool zt ft h) {a : Int} (ha : InR a) {i : Int} (hi : InR i) : ONE G l x y (n0 + 1) mX10_move [.int (J a), .int (J i)] h (fun h' => Same (kBlk x) h h') (fun z f4' m' kpm' pool' zt' ft' => ((-9 ≤ z ∧ z < 0) ∧ SM f4 m kpm pool zt ft f4' m' kpm' pool' zt' ft') ∨ (∃ q u : Nat, a = q ∧ i = u ∧ moveDo m q u ∧ (0 ≤ z ∧ z ≤ 150) ∧ m' = movesM m q u ∧ MC f4 kpm pool zt ft f4' kpm' pool' zt' ft')) := by
  obtain ⟨f18, pap, rwd, rw, hCH, hSO⟩ := hI
  obtain ⟨S, kp, tk, zr, fr, p, e, o, zs, fs, b, fa, c, C, nm, g, hK, ⟨hT, hst, hke, htk⟩, hro, hpa, hxy⟩ := id hCH
  obtain ⟨⟨hA, hPo⟩, hkp, hta, h18, hrw⟩ := id hSO
  obtain ⟨N, K, T, Z, F, hX⟩ := fx_of hT hA
  obtain ⟨⟨mN, cN, N90⟩, ⟨mK, cK, K1, K60⟩, ⟨mT, cT, T10⟩, ⟨cZ, Z150⟩, ⟨⟨c11, c12, c13⟩, F90, c4⟩, ⟨hO, hpR, hpO, hoO⟩, ⟨c8, c9, L0, L90⟩, ⟨hc, hC⟩, hst2, htp⟩ := id hX
  obtain ⟨⟨hInv, hsc, hnc, hns⟩, hTk, hm7, hm8⟩ := id hA
  have hok := hInv.1
  have hM := hok.1
  have hCR := hT.1
  have hcT := hCR.2.1
  have hcS := hCR.2.2.1
  have hcK := hCR.2.2.2.1
  have hcL := hCR.2.2.2.2.1
  have hst3 : ∀ t : Nat, (t : Int) < m 1 → 0 ≤ m (258 + 14 * t) ∧ m (258 + 14 * t) ≤ 2 := fun t ht => (hst2 t ht).1
  have h6 : InR (m 6 + 1) := by
    have := hInv.2.2.2.2.1
    exact ⟨by omega, by omega⟩
  by_cases w : (0 ≤ a ∧ a ≤ m 1 - 1) ∧ (0 ≤ i ∧ i ≤ m 0 - 1)
  · obtain ⟨q, rfl⟩ : ∃ q : Nat, a = q := ⟨a.toNat, by omega⟩
    obtain ⟨u, rfl⟩ : ∃ u : Nat, i = u := ⟨i.toNat, by omega⟩
    have eq : ((q : Int)).toNat = q := by omega
    have eu : ((u : Int)).toNat = u := by omega
    have e18 : ((18 : Int) + 4 * (u : Int)).toNat = 18 + 4 * u := by omega
    have e58 : ((258 : Int) + 14 * (q : Int)).toNat = 258 + 14 * q := by omega
    have s0 : c (304 + 3 * u) = 0 ↔ m (18 + 4 * u) = 0 := by rw [(hcS u (by omega)).1]; exact swT_0 (hsc.2.2 u (by omega)).1
    have t0 : c (32 + 3 * q) = 0 ↔ m (258 + 14 * q) = 0 := by rw [(hcT q (by omega)).1]; exact swT_0 (hst3 q (by omega))
    have hop : openP m (u : Int) ↔ m (18 + 4 * u) = 0 := ⟨fun z => by have := z.2.2; rwa [e18] at this, fun z => ⟨w.2.1, w.2.2, by rw [e18]; exact z⟩⟩
    by_cases w2 : m (258 + 14 * q) = 0 ∧ m (18 + 4 * u) = 0
    · have md : moveDo m q u := ⟨w.1, by rw [e58]; exact w2.1, hop.mpr w2.2⟩
      have ev : moveV m N K q u = entsN (movesM m q u) u N K := by unfold moveV; rw [if_pos w, if_pos ⟨by rw [e58]; exact w2.1, hop.mpr w2.2⟩, eq]
      have t1 := t0.mpr w2.1
      have s1 := s0.mpr w2.2
      obtain ⟨hA2, h82⟩ := all_move hA (by omega) md
      rw [eq] at hA2 h82
      have hT2 := ctr_move hT hTk hok (t := q) (s := (u : Int)) (by omega) w2.1 ⟨by omega, by omega⟩ cZ
      have cn0 := cnt_r (p := notB (q : Int) (C 2)) Z
      have e0 : movesM m q u 0 = m 0 := by unfold movesM; (repeat rw [updI_n (by omega)])
      have e1 : movesM m q u 1 = m 1 := by unfold movesM; (repeat rw [updI_n (by omega)])
      have ec : cnt (enB (mvC c q u (cnt (notB (q : Int) (C 2)) Z)) (mvD C Z q 2) u) ((cnt (notB (q : Int) (C 2)) Z).toNat + 1) = entsN (movesM m q u) u N K := by
        obtain ⟨⟨i1, i2, i3, i4⟩, -⟩ := hA2
        exact en_eq hT2.1 i1.1 i2 i3 (fun t ht => (i1.2.2.1 t ht).1) w.2.1 (by unfold mvC; rw [updI_s]; omega) (e1.trans mN) (e0.trans mK)
      refine ONE.of (z := (entsN (movesM m q u) u N K)) (f4' := f4) (m' := movesM m q u) (kpm' := kpm) (pool' := pool) (zt' := zt) (ft' := ft) (f18' := f18) (pap' := pap) (rwd' := rwd) (rw' := rw) (Nat.le_of_ble_eq_true rfl) ((kg_move 0 hK hc hC ha hi cZ Z150).mono (fun v h' q0 => ?_)) ?_ ?_
      · rw [eq, eu, ec] at q0
        rcases q0 with q0 | q0 | ⟨-, -, q1, q2, q3⟩
        · exfalso; omega
        · exfalso; omega
        · exact ⟨q1, q3, CP.of hxy q3 q2 hT2 hst hke htk hro hpa⟩
      · exact Or.inr ⟨q, u, rfl, rfl, md, (by unfold entsN; have z1 := cnt_r (p := entTB (movesM m q u) u) N; have z2 := cnt_r (p := entSC (movesM m q u) u) K; constructor <;> omega), rfl, MC.rf⟩
      · exact hSO.mm (hA2.up (by omega) (by omega)) h82
    · have md : ¬ moveDo m q u := fun z => w2 ⟨by have := z.2.1; rwa [e58] at this, hop.mp z.2.2⟩
      have ev : moveV m N K q u = -3 := by unfold moveV; rw [if_pos w, if_neg (fun z => w2 ⟨by have := z.1; rwa [e58] at this, hop.mp z.2⟩)]
      refine ONE.ask (z := -3) (Nat.le_of_ble_eq_true rfl) hCH hSO.up Same.refl ((kg_move 0 hK hc hC ha hi cZ Z150).mono (fun v h' q0 => ?_)) ?_
      · rw [eq, eu] at q0
        rcases q0 with q0 | q0 | q0
        all_goals first | (exfalso; omega) | exact ⟨q0.2.1, q0.2.2⟩ | exact ⟨q0.2.2.1, q0.2.2.2⟩
      · exact Or.inl ⟨by decide, SM.rf⟩
  · have md : ¬ moveDo m a i := fun z => w ⟨z.1, z.2.2.1, z.2.2.2.1⟩
    have ev : moveV m N K a i = -1 := by unfold moveV; rw [if_neg w]
    refine ONE.ask (z := -1) (Nat.le_of_ble_eq_true rfl) hCH hSO.up Same.refl ((kg_move 0 hK hc hC ha hi cZ Z150).mono (fun v h' q0 => ?_)) ?_
    · rcases q0 with q0 | q0 | q0
      all_goals first | (exfalso; omega) | exact ⟨q0.2.1, q0.2.2⟩ | exact ⟨q0.2.2.1, q0.2.2.2⟩
    · exact Or.inl ⟨by decide, SM.rf⟩
set_option maxHeartbeats 4000000 in
set_option maxRecDepth 100000 in
theorem oc_close {G : mG} {l : Launch} (hG : G.2.map Prod.snd = mTy) {x y n0 : Nat} {h : mH} {f4 : Int} {m kpm pool : Nat → Int} {zt : Int} {ft : Nat → Int} (hn0 : n0 ≤ 600) (hI : RO x y n0 f4 m kpm pool zt ft h) {a : Int} (ha : InR a) : ONE G l x y (n0 + 1) mX10_close [.int (J a)] h (fun h' => Same (kBlk x) h h') (fun z f4' m' kpm' pool' zt' ft' => ((-9 ≤ z ∧ z < 0) ∧ SM f4 m kpm pool zt ft f4' m' kpm' pool' zt' ft') ∨ (∃ q : Nat, a = q ∧ closeDo m q ∧ closesR pool (-1) 91 (updI m 5 0) q m' ∧ z = m' 5 ∧ MC f4 kpm pool zt ft f4' kpm' pool' zt' ft')) := by
  obtain ⟨f18, pap, rwd, rw, hCH, hSO⟩ := hI
  obtain ⟨S, kp, tk, zr, fr, p, e, o, zs, fs, b, fa, c, C, nm, g, hK, ⟨hT, hst, hke, htk⟩, hro, hpa, hxy⟩ := id hCH
  obtain ⟨⟨hA, hPo⟩, hkp, hta, h18, hrw⟩ := id hSO
  obtain ⟨N, K, T, Z, F, hX⟩ := fx_of hT hA
  obtain ⟨⟨mN, cN, N90⟩, ⟨mK, cK, K1, K60⟩, ⟨mT, cT, T10⟩, ⟨cZ, Z150⟩, ⟨⟨c11, c12, c13⟩, F90, c4⟩, ⟨hO, hpR, hpO, hoO⟩, ⟨c8, c9, L0, L90⟩, ⟨hc, hC⟩, hst2, htp⟩ := id hX
  obtain ⟨⟨hInv, hsc, hnc, hns⟩, hTk, hm7, hm8⟩ := id hA
  have hok := hInv.1
  have hM := hok.1
  have hCR := hT.1
  have hcT := hCR.2.1
  have hcS := hCR.2.2.1
  have hcK := hCR.2.2.2.1
  have hcL := hCR.2.2.2.2.1
  have hst3 : ∀ t : Nat, (t : Int) < m 1 → 0 ≤ m (258 + 14 * t) ∧ m (258 + 14 * t) ≤ 2 := fun t ht => (hst2 t ht).1
  by_cases w : 0 ≤ a ∧ a ≤ m 1 - 1
  · obtain ⟨q, rfl⟩ : ∃ q : Nat, a = q := ⟨a.toNat, by omega⟩
    have eq : ((q : Int)).toNat = q := by omega
    have e58 : ((258 : Int) + 14 * (q : Int)).toNat = 258 + 14 * q := by omega
    have t0 : c (32 + 3 * q) = 0 ↔ m (258 + 14 * q) = 0 := by rw [(hcT q (by omega)).1]; exact swT_0 (hst3 q (by omega))
    by_cases w2 : m (258 + 14 * q) = 0
    · have cd : closeDo m q := ⟨w, by rw [e58]; exact w2⟩
      have t1 := t0.mpr w2
      obtain ⟨m2, b1, b2, b3, b4⟩ := both_close (G := G) (l := l) (r := kA x 8) (h0 := h) hst.hS (hst.hR hxy.1 rfl) hA hPo (by omega) cd
      have hok2 := b2.1.1.1
      refine ONE.of (z := (m2 5)) (f4' := f4) (m' := m2) (kpm' := kpm) (pool' := pool) (zt' := zt) (ft' := ft) (f18' := f18) (pap' := pap) (rwd' := rwd) (rw' := rw) (Nat.le_of_ble_eq_true rfl) ((kg_close 0 hK hc hC ha (r1 := m2 5) (R := fun h' => ∃ c5, BES (kA x 8) pool S h (-1) c5 m2 h') (hok2.1 5) (fun _ _ => b4 b (c 4) h ⟨fa, c, C, nm, g, hK.r, Same.refl, hCR, hT.2, rfl⟩)).mono (fun v h' q0 => ?_)) ?_ ?_
      · rw [eq] at q0
        rcases q0 with q0 | q0 | ⟨-, -, q1, q2⟩
        · exfalso; omega
        · exfalso; omega
        · obtain ⟨c5, f2, c2, C2, nm2, g2, hR2, hS2, hC2, hT2, -⟩ := q2
          exact ⟨q1, (same_kr hS2), CP.of hxy (same_kr hS2) (hK.ofR hS2 hR2) ⟨hC2, hT2⟩ hst hke htk hro hpa⟩
      · exact Or.inr ⟨q, rfl, cd, b1, rfl, MC.rf⟩
      · exact hSO.mm (b2.up (by omega) (by omega)) b3
    · have cd : ¬ closeDo m q := fun z => w2 (by have := z.2; rwa [e58] at this)
      have t1 : ¬ c (32 + 3 * q) = 0 := fun z => w2 (t0.mp z)
      have ev : closeN m q = -3 := by unfold closeN; rw [if_pos w]
      refine ONE.ask (z := -3) (Nat.le_of_ble_eq_true rfl) hCH hSO.up Same.refl ((kg_close 0 hK hc hC ha (r1 := 0) (R := fun _ => True) (by decide) (fun z1 z2 => absurd z2 (by rw [eq]; exact t1))).mono (fun v h' q0 => ?_)) ?_
      · rw [eq] at q0
        rcases q0 with q0 | q0 | q0
        · exfalso; omega
        · exact ⟨q0.2.2.1, q0.2.2.2⟩
        · exfalso; omega
      · exact Or.inl ⟨by decide, SM.rf⟩
  · have cd : ¬ closeDo m a := fun z => w z.1
    have ev : closeN m a = -1 := by unfold closeN; rw [if_neg w]
    refine ONE.ask (z := -1) (Nat.le_of_ble_eq_true rfl) hCH hSO.up Same.refl ((kg_close 0 hK hc hC ha (r1 := 0) (R := fun _ => True) (by decide) (fun z1 z2 => absurd z1 (by omega))).mono (fun v h' q0 => ?_)) ?_
    · rcases q0 with q0 | q0 | q0
      · exact ⟨q0.2.1, q0.2.2⟩
      · exfalso; omega
      · exfalso; omega
    · exact Or.inl ⟨by decide, SM.rf⟩
set_option maxHeartbeats 4000000 in
set_option maxRecDepth 100000 in
theorem oc_shut {G : mG} {l : Launch} (hG : G.2.map Prod.snd = mTy) {x y n0 : Nat} {h : mH} {f4 : Int} {m kpm pool : Nat → Int} {zt : Int} {ft : Nat → Int} (hn0 : n0 ≤ 600) (hI : RO x y n0 f4 m kpm pool zt ft h) {a : Int} (ha : InR a) : ONE G l x y (n0 + 1) mX10_shut [.int (J a)] h (fun h' => Same (kBlk x) h h') (fun z f4' m' kpm' pool' zt' ft' => (¬ openP m a ∧ z = (if 0 ≤ a ∧ a ≤ m 0 - 1 then -3 else -1) ∧ SM f4 m kpm pool zt ft f4' m' kpm' pool' zt' ft') ∨ (openP m a ∧ shutsR pool (-1) 61 (updI m 5 0) a m' ∧ z = m' 5 ∧ MC f4 kpm pool zt ft f4' kpm' pool' zt' ft')) := by
  obtain ⟨f18, pap, rwd, rw, hCH, hSO⟩ := hI
  obtain ⟨S, kp, tk, zr, fr, p, e, o, zs, fs, b, fa, c, C, nm, g, hK, ⟨hT, hst, hke, htk⟩, hro, hpa, hxy⟩ := id hCH
  obtain ⟨⟨hA, hPo⟩, hkp, hta, h18, hrw⟩ := id hSO
  obtain ⟨N, K, T, Z, F, hX⟩ := fx_of hT hA
  obtain ⟨⟨mN, cN, N90⟩, ⟨mK, cK, K1, K60⟩, ⟨mT, cT, T10⟩, ⟨cZ, Z150⟩, ⟨⟨c11, c12, c13⟩, F90, c4⟩, ⟨hO, hpR, hpO, hoO⟩, ⟨c8, c9, L0, L90⟩, ⟨hc, hC⟩, hst2, htp⟩ := id hX
  obtain ⟨⟨hInv, hsc, hnc, hns⟩, hTk, hm7, hm8⟩ := id hA
  have hok := hInv.1
  have hM := hok.1
  have hCR := hT.1
  have hcT := hCR.2.1
  have hcS := hCR.2.2.1
  have hcK := hCR.2.2.2.1
  have hcL := hCR.2.2.2.2.1
  have hst3 : ∀ t : Nat, (t : Int) < m 1 → 0 ≤ m (258 + 14 * t) ∧ m (258 + 14 * t) ≤ 2 := fun t ht => (hst2 t ht).1
  by_cases w : 0 ≤ a ∧ a ≤ m 0 - 1
  · skip
    obtain ⟨q, rfl⟩ : ∃ q : Nat, a = q := ⟨a.toNat, by omega⟩
    have e18 : ((18 : Int) + 4 * (q : Int)).toNat = 18 + 4 * q := by omega
    have eq : ((q : Int)).toNat = q := by omega
    have s0 : c (304 + 3 * q) = 0 ↔ m (18 + 4 * q) = 0 := by rw [(hcS q (by omega)).1]; exact swT_0 (hsc.2.2 q (by omega)).1
    have hop : openP m (q : Int) ↔ m (18 + 4 * q) = 0 := ⟨fun z => by have := z.2.2; rwa [e18] at this, fun z => ⟨w.1, w.2, by rw [e18]; exact z⟩⟩
    by_cases w2 : m (18 + 4 * q) = 0
    · have cd : openP m (q : Int) := hop.mpr w2
      have t1 := s0.mpr w2
      obtain ⟨m2, b1, b2, b3, b4⟩ := both_shut (G := G) (l := l) (r := kA x 8) (h0 := h) hst.hS (hst.hR hxy.1 rfl) hA hPo (by omega) cd
      have hok2 := b2.1.1.1
      refine ONE.of (z := (m2 5)) (f4' := f4) (m' := m2) (kpm' := kpm) (pool' := pool) (zt' := zt) (ft' := ft) (f18' := f18) (pap' := pap) (rwd' := rwd) (rw' := rw) (Nat.le_of_ble_eq_true rfl) ((kg_shut 0 hK hc hC ha (r1 := m2 5) (R := fun h' => ∃ c5, BES (kA x 8) pool S h (-1) c5 m2 h') (hok2.1 5) (fun _ _ => b4 b (c 4) h ⟨fa, c, C, nm, g, hK.r, Same.refl, hCR, hT.2, rfl⟩)).mono (fun v h' q0 => ?_)) ?_ ?_
      · rw [eq] at q0
        rcases q0 with q0 | q0 | ⟨-, -, q1, q2⟩
        · exfalso; omega
        · exfalso; omega
        · obtain ⟨c5, f2, c2, C2, nm2, g2, hR2, hS2, hC2, hT2, -⟩ := q2
          exact ⟨q1, (same_kr hS2), CP.of hxy (same_kr hS2) (hK.ofR hS2 hR2) ⟨hC2, hT2⟩ hst hke htk hro hpa⟩
      · exact Or.inr ⟨cd, b1, rfl, MC.rf⟩
      · exact hSO.mm (b2.up (by omega) (by omega)) b3
    · have cd : ¬ openP m (q : Int) := fun z => w2 (hop.mp z)
      have t1 : ¬ c (304 + 3 * q) = 0 := fun z => w2 (s0.mp z)
      have ev : shutN m q = -3 := by unfold shutN; rw [if_pos w]
      refine ONE.ask (z := -3) (Nat.le_of_ble_eq_true rfl) hCH hSO.up Same.refl ((kg_shut 0 hK hc hC ha (r1 := 0) (R := fun _ => True) (by decide) (fun z1 z2 => absurd z2 (by rw [eq]; exact t1))).mono (fun v h' q0 => ?_)) ?_
      · rw [eq] at q0
        rcases q0 with q0 | q0 | q0
        · exfalso; omega
        · exact ⟨q0.2.2.1, q0.2.2.2⟩
        · exfalso; omega
      · exact Or.inl ⟨cd, by rw [if_pos w], SM.rf⟩
  · have cd : ¬ openP m a := fun z => w ⟨z.1, z.2.1⟩
    have ev : shutN m a = -1 := by unfold shutN; rw [if_neg w]
    refine ONE.ask (z := -1) (Nat.le_of_ble_eq_true rfl) hCH hSO.up Same.refl ((kg_shut 0 hK hc hC ha (r1 := 0) (R := fun _ => True) (by decide) (fun z1 z2 => absurd z1 (by omega))).mono (fun v h' q0 => ?_)) ?_
    · rcases q0 with q0 | q0 | q0
      · exact ⟨q0.2.1, q0.2.2⟩
      · exfalso; omega
      · exfalso; omega
    · exact Or.inl ⟨cd, by rw [if_neg w], SM.rf⟩
set_option maxHeartbeats 4000000 in
set_option maxRecDepth 100000 in
theorem oc_tick {G : mG} {l : Launch} (hG : G.2.map Prod.snd = mTy) {x y n0 : Nat} {h : mH} {f4 : Int} {m kpm pool : Nat → Int} {zt : Int} {ft : Nat → Int} (hn0 : n0 ≤ 600) (hI : RO x y n0 f4 m kpm pool zt ft h) : ONE G l x y (n0 + 1) mX10_tick [] h (fun h' => Same (kBlk x) h h') (fun z f4' m' kpm' pool' zt' ft' => tickR pool m m' ∧ z = nextV m ∧ MC f4 kpm pool zt ft f4' kpm' pool' zt' ft') := by
  obtain ⟨f18, pap, rwd, rw, hCH, hSO⟩ := hI
  obtain ⟨S, kp, tk, zr, fr, p, e, o, zs, fs, b, fa, c, C, nm, g, hK, ⟨hT, hst, hke, htk⟩, hro, hpa, hxy⟩ := id hCH
  obtain ⟨⟨hA, hPo⟩, hkp, hta, h18, hrw⟩ := id hSO
  obtain ⟨N, K, T, Z, F, hX⟩ := fx_of hT hA
  obtain ⟨⟨mN, cN, N90⟩, ⟨mK, cK, K1, K60⟩, ⟨mT, cT, T10⟩, ⟨cZ, Z150⟩, ⟨⟨c11, c12, c13⟩, F90, c4⟩, ⟨hO, hpR, hpO, hoO⟩, ⟨c8, c9, L0, L90⟩, ⟨hc, hC⟩, hst2, htp⟩ := id hX
  obtain ⟨⟨hInv, hsc, hnc, hns⟩, hTk, hm7, hm8⟩ := id hA
  have hok := hInv.1
  have hM := hok.1
  have hCR := hT.1
  have hcT := hCR.2.1
  have hcS := hCR.2.2.1
  have hcK := hCR.2.2.2.1
  have hcL := hCR.2.2.2.2.1
  have hst3 : ∀ t : Nat, (t : Int) < m 1 → 0 ≤ m (258 + 14 * t) ∧ m (258 + 14 * t) ≤ 2 := fun t ht => (hst2 t ht).1
  obtain ⟨m2, b1, b2, b3, b4⟩ := both_tick (G := G) (l := l) (r := kA x 8) (h0 := h) hst.hS (hst.hR hxy.1 rfl) hPo hA (by omega) (by omega)
  have rn : InR (nextV m) := by
    have := nextV_r hok
    have := hok.2.2.2.2.1
    exact ⟨by omega, by omega⟩
  refine ONE.of (z := (nextV m)) (f4' := f4) (m' := m2) (kpm' := kpm) (pool' := pool) (zt' := zt) (ft' := ft) (f18' := f18) (pap' := pap) (rwd' := rwd) (rw' := rw) (Nat.le_of_ble_eq_true rfl) ((kg_tick 0 hK hc hC (r1 := nextV m) (R := fun h' => ∃ b2, BES (kA x 8) pool S h b2 (c 4) m2 h') rn (b4 b (c 4) h ⟨fa, c, C, nm, g, hK.r, Same.refl, hCR, hT.2, rfl⟩)).mono (fun v h' q0 => ?_)) ?_ ?_
  · obtain ⟨q1, q2⟩ := q0
    obtain ⟨c5, f2, c2, C2, nm2, g2, hR2, hS2, hC2, hT2, -⟩ := q2
    exact ⟨q1, (same_kr hS2), CP.of hxy (same_kr hS2) (hK.ofR hS2 hR2) ⟨hC2, hT2⟩ hst hke htk hro hpa⟩
  · exact ⟨b1, rfl, MC.rf⟩
  · exact hSO.mm (b2.up (by omega) (by omega)) b3
set_option maxHeartbeats 4000000 in
set_option maxRecDepth 100000 in
theorem oc_image {G : mG} {l : Launch} (hG : G.2.map Prod.snd = mTy) {x y n0 : Nat} {h : mH} {f4 : Int} {m kpm pool : Nat → Int} {zt : Int} {ft : Nat → Int} (hn0 : n0 ≤ 600) (hI : RO x y n0 f4 m kpm pool zt ft h) : ONE G l x y (n0 + 1) mX10_image [] h (fun _ => True) (fun z f4' m' kpm' pool' zt' ft' => z = cnt (heldB m) (m 1).toNat ∧ f4' = 1 ∧ m' = m ∧ kpm' = m ∧ pool' = pool ∧ zt' = zt ∧ ft' = ft) := by
  obtain ⟨f18, pap, rwd, rw, hCH, hSO⟩ := hI
  obtain ⟨S, kp, tk, zr, fr, p, e, o, zs, fs, b, fa, c, C, nm, g, hK, ⟨hT, hst, hke, htk⟩, hro, hpa, hxy⟩ := id hCH
  obtain ⟨⟨hA, hPo⟩, hkp, hta, h18, hrw⟩ := id hSO
  obtain ⟨N, K, T, Z, F, hX⟩ := fx_of hT hA
  obtain ⟨⟨mN, cN, N90⟩, ⟨mK, cK, K1, K60⟩, ⟨mT, cT, T10⟩, ⟨cZ, Z150⟩, ⟨⟨c11, c12, c13⟩, F90, c4⟩, ⟨hO, hpR, hpO, hoO⟩, ⟨c8, c9, L0, L90⟩, ⟨hc, hC⟩, hst2, htp⟩ := id hX
  obtain ⟨⟨hInv, hsc, hnc, hns⟩, hTk, hm7, hm8⟩ := id hA
  have hok := hInv.1
  have hM := hok.1
  have hCR := hT.1
  have hcT := hCR.2.1
  have hcS := hCR.2.2.1
  have hcK := hCR.2.2.2.1
  have hcL := hCR.2.2.2.2.1
  have hst3 : ∀ t : Nat, (t : Int) < m 1 → 0 ≤ m (258 + 14 * t) ∧ m (258 + 14 * t) ≤ 2 := fun t ht => (hst2 t ht).1
  rcases id hke with ⟨rfl, e4⟩ | ⟨w2, c2, C2, nm2, g2, ⟨rfl, e4⟩, ⟨w3, w4⟩, w5, w6, w7⟩
  · skip
    refine ONE.of (z := (cnt (heldB m) (m 1).toNat)) (f4' := 1) (m' := m) (kpm' := m) (pool' := pool) (zt' := zt) (ft' := ft) (f18' := f18) (pap' := pap) (rwd' := rwd) (rw' := rw) (Nat.le_of_ble_eq_true rfl) ((kg_imageN 13 hK hc hC hG (by omega) (n1 := cnt (heldB m) (m 1).toNat) (R := fun h' => ∃ h1, isK h1 x (some h.2.1) tk zr fr p e o zt ft zs fs b 0 fa c C nm g ∧ (h1.1 = h.1 ∧ (∀ q, q < h.2.1 → ¬ q = x → hGet h1 q = hGet h q) ∧ h1.2.1 = h.2.1 + 177 ∧ h1.2.2.1 ≤ h.2.2.1 + 5000) ∧ (∃ c' C' nm' g', isW h' h.2.1 c' C' nm' g' ∧ CTR m pool S c' C' nm' g') ∧ Same (wBlk h.2.1) h1 h') (fun h1 k1 k2 k3 => (ctr_become 24 k1 wc0_r k2.w (Or.inr (by unfold rA kA; omega)) hT hok hTk).mono (fun v h' q => ⟨q.1, h1, k2, k3, q.2.1, q.2.2⟩)) (fun h' ⟨h1, k1, k2, k3, k4⟩ => (k4.2.2.2 x (by unfold wBlk; omega)).trans k1.gx) (fun h' ⟨h1, k1, k2, k3, k4⟩ => ⟨_, (k4.2.2.2 _ (by unfold wBlk rA kA; omega)).trans k1.w.gx⟩) (fun h' ⟨h1, k1, k2, k3, k4⟩ => kg_held 23 (k1.w.kept k4 (fun b hb => by unfold wBlk rA kA at hb; unfold wBlk; omega)) hT hA)).mono (fun v h' q0 => ?_)) ?_ ?_
    · obtain ⟨q1, h1, k1, ⟨k2, k3, k4, k5⟩, ⟨c2, C2, nm2, g2, k6, k7⟩, k8⟩ := q0
      have z1 := k8.2.1
      have z2 := k8.2.2.1
      have oo : Old (kBlk x) h h' := ⟨k8.1.trans k2, by omega, fun b hb hn => (k8.2.2.2 b (by unfold wBlk; omega)).trans (k3 b hb (fun q => hn (by unfold kBlk; omega)))⟩
      have oS : ∀ a, wBlk h.2.1 a → S a = none := fun a ha => by
        cases z : S a with
        | none => rfl
        | some ob => have := (hst a ob z).2.2; unfold wBlk at ha; omega
      refine ⟨q1, trivial, ⟨S, some h.2.1, tk, zr, fr, p, e, o, zs, fs, b, fa, c, C, nm, g, k1.kp k8.1 (fun q hq => k8.2.2.2 q (by unfold kBlk at hq; unfold wBlk; omega)), ⟨hT, hst.kp oo (fun b hb => Or.inl (by unfold kBlk at hb; omega)), Or.inr ⟨h.2.1, c2, C2, nm2, g2, ⟨rfl, rfl⟩, ⟨hxy.2, by omega⟩, oS, k6, k7⟩, ?_⟩, hro, hpa, by omega, by omega⟩, ⟨k8.1.trans k2, fun b hb => ?_⟩, by omega, by omega⟩
      · rcases htk.kp oo (fun b r e hb => by have := htk.lo e; unfold rBlk at hb; unfold kBlk; omega) with t | ⟨r, b2, f2, c3, C3, nm3, g3, t1, t2, t3, t4, t5⟩
        · exact Or.inl t
        · have tr : r + 180 ≤ h.2.1 := by
            rcases htk with t | ⟨r2, b3, f3, c4, C4, nm4, g4, s1, s2, -⟩
            · rw [t] at t1; cases t1
            · rw [s1] at t1; cases t1; exact s2.2
          exact Or.inr ⟨r, b2, f2, c3, C3, nm3, g3, t1, t2, t3, fun w e => by cases e; exact Or.inr tr, t5⟩
      · unfold eBlk at hb
        exact (k8.2.2.2 b (by unfold wBlk; omega)).trans (k3 b (by omega) (by omega))
    · exact ⟨rfl, rfl, rfl, rfl, rfl, rfl, rfl⟩
    · obtain ⟨⟨u1, u2⟩, -, u5⟩ := hSO.up
      exact ⟨⟨u1, u2⟩, ⟨Or.inr rfl, fun _ => ⟨u1, Int.le_refl _⟩⟩, u5⟩
  · have gw2 := w6.gx
    refine ONE.of (z := (cnt (heldB m) (m 1).toNat)) (f4' := 1) (m' := m) (kpm' := m) (pool' := pool) (zt' := zt) (ft' := ft) (f18' := f18) (pap' := pap) (rwd' := rwd) (rw' := rw) (Nat.le_of_ble_eq_true rfl) ((kg_imageS 13 hK hc hC (n1 := cnt (heldB m) (m 1).toNat) (R := fun h' => (∃ c' C' nm' g', isW h' w2 c' C' nm' g' ∧ CTR m pool S c' C' nm' g') ∧ Same (wBlk w2) h h') ((ctr_become 24 w6 (ctr_r w7) hK.w (Or.inr (by unfold rA kA; omega)) hT hok hTk).mono (fun v h' q => q)) (fun h' k => k.2.2.2.2 x (by unfold wBlk; omega)) (fun h' k => ⟨_, (k.2.2.2.2 _ (by unfold wBlk rA kA; omega)).trans hK.w.gx⟩) gw2 (fun h' k => kg_held 23 (hK.w.kept k.2 (fun b hb => by unfold wBlk rA kA at hb; unfold wBlk; omega)) hT hA)).mono (fun v h' q0 => ?_)) ?_ ?_
    · obtain ⟨q1, ⟨c3, C3, nm3, g3, k6, k7⟩, k8⟩ := q0
      have z1 := k8.2.1
      have z2 := k8.2.2.1
      refine ⟨q1, trivial, ⟨S, some w2, tk, zr, fr, p, e, o, zs, fs, b, fa, c, C, nm, g, hK.kp k8.1 (fun q hq => k8.2.2.2 q (by unfold kBlk at hq; unfold wBlk; omega)), ⟨hT, hst.kp (Old.of k8) (fun b hb => Or.inr (w5 b hb)), Or.inr ⟨w2, c3, C3, nm3, g3, ⟨rfl, rfl⟩, ⟨w3, by omega⟩, w5, k6, k7⟩, htk.kp (Old.of k8) (fun b r e hb => ?_)⟩, hro, hpa, by omega, by omega⟩, ⟨k8.1, fun b hb => k8.2.2.2 b (by unfold eBlk at hb; unfold wBlk; omega)⟩, by omega, by omega⟩
      rcases htk with t | ⟨r2, b3, f3, c4, C4, nm4, g4, s1, s2, s3, s4, -⟩
      · rw [t] at e; cases e
      · rw [s1] at e; cases e
        have := s4 w2 rfl
        unfold rBlk at hb; unfold wBlk; omega
    · exact ⟨rfl, rfl, rfl, rfl, rfl, rfl, rfl⟩
    · obtain ⟨⟨u1, u2⟩, -, u5⟩ := hSO.up
      exact ⟨⟨u1, u2⟩, ⟨Or.inr rfl, fun _ => ⟨u1, Int.le_refl _⟩⟩, u5⟩
set_option maxHeartbeats 4000000 in
set_option maxRecDepth 100000 in
theorem oc_undo {G : mG} {l : Launch} (hG : G.2.map Prod.snd = mTy) {x y n0 : Nat} {h : mH} {f4 : Int} {m kpm pool : Nat → Int} {zt : Int} {ft : Nat → Int} (hn0 : n0 ≤ 600) (hI : RO x y n0 f4 m kpm pool zt ft h) : ONE G l x y (n0 + 1) mX10_undo [] h (fun h' => Same (kBlk x) h h') (fun z f4' m' kpm' pool' zt' ft' => f4 = 1 → z = cnt (heldB kpm) (kpm 1).toNat ∧ m' = kpm ∧ MC f4 kpm pool zt ft f4' kpm' pool' zt' ft') := by
  obtain ⟨f18, pap, rwd, rw, hCH, hSO⟩ := hI
  obtain ⟨S, kp, tk, zr, fr, p, e, o, zs, fs, b, fa, c, C, nm, g, hK, ⟨hT, hst, hke, htk⟩, hro, hpa, hxy⟩ := id hCH
  obtain ⟨⟨hA, hPo⟩, hkp, hta, h18, hrw⟩ := id hSO
  obtain ⟨N, K, T, Z, F, hX⟩ := fx_of hT hA
  obtain ⟨⟨mN, cN, N90⟩, ⟨mK, cK, K1, K60⟩, ⟨mT, cT, T10⟩, ⟨cZ, Z150⟩, ⟨⟨c11, c12, c13⟩, F90, c4⟩, ⟨hO, hpR, hpO, hoO⟩, ⟨c8, c9, L0, L90⟩, ⟨hc, hC⟩, hst2, htp⟩ := id hX
  obtain ⟨⟨hInv, hsc, hnc, hns⟩, hTk, hm7, hm8⟩ := id hA
  have hok := hInv.1
  have hM := hok.1
  have hCR := hT.1
  have hcT := hCR.2.1
  have hcS := hCR.2.2.1
  have hcK := hCR.2.2.2.1
  have hcL := hCR.2.2.2.2.1
  have hst3 : ∀ t : Nat, (t : Int) < m 1 → 0 ≤ m (258 + 14 * t) ∧ m (258 + 14 * t) ≤ 2 := fun t ht => (hst2 t ht).1
  rcases id hke with ⟨rfl, e4⟩ | ⟨w2, c2, C2, nm2, g2, ⟨rfl, e4⟩, ⟨w3, w4⟩, w5, w6, w7⟩
  · have hokk : mOk kpm := by
      rcases hkp.1 with k | k
      · exact k.2
      · omega
    refine ONE.ask (z := -3) (Nat.le_of_ble_eq_true rfl) hCH hSO.up Same.refl ((kg_undoN 0 hK hc hC).mono (fun v h' q0 => ?_)) ?_
    · exact q0
    · exact fun z => absurd z (by rw [e4]; decide)
  · have gw2 := w6.gx
    obtain ⟨hAk, h8k⟩ := hkp.2 e4
    have hokk := hAk.1.1.1
    refine ONE.of (z := (cnt (heldB kpm) (kpm 1).toNat)) (f4' := f4) (m' := kpm) (kpm' := kpm) (pool' := pool) (zt' := zt) (ft' := ft) (f18' := f18) (pap' := pap) (rwd' := rwd) (rw' := rw) (Nat.le_of_ble_eq_true rfl) ((kg_undo 13 hK hc hC (n1 := cnt (heldB kpm) (kpm 1).toNat) (R := fun h' => (∃ c' C' nm' g', isW h' (rA (kA x 8) 1) c' C' nm' g' ∧ CTR kpm pool S c' C' nm' g') ∧ Same (wBlk (rA (kA x 8) 1)) h h') ((ctr_become 24 hK.w ⟨hc, hC⟩ w6 (Or.inl (by unfold rA kA; omega)) w7 hokk hAk.2.1).mono (fun v h' q => q)) (fun h' k => k.2.2.2.2 x (by unfold wBlk rA kA; omega)) (fun h' k => by obtain ⟨⟨c', C', nm', g', k1, k2⟩, -⟩ := k; exact ⟨_, k1.gx⟩) gw2 (fun h' k => by obtain ⟨⟨c', C', nm', g', k1, k2⟩, -⟩ := k; exact kg_held 23 k1 k2 hAk)).mono (fun v h' q0 => ?_)) ?_ ?_
    · obtain ⟨q1, ⟨c3, C3, nm3, g3, k6, k7⟩, k8⟩ := q0
      exact ⟨q1, (same_kw k8), CP.of hxy (same_kw k8) (hK.ofW k8 k6) k7 hst hke htk hro hpa⟩
    · exact fun _ => ⟨rfl, rfl, MC.rf⟩
    · obtain ⟨⟨u1, u2⟩, ⟨u3, u4⟩, u5⟩ := hSO.up
      exact ⟨⟨(u4 e4).1, u2⟩, ⟨u3, fun _ => ⟨(u4 e4).1, Int.le_refl _⟩⟩, u5⟩
set_option maxHeartbeats 4000000 in
set_option maxRecDepth 100000 in
theorem oc_take {G : mG} {l : Launch} (hG : G.2.map Prod.snd = mTy) {x y n0 : Nat} {h : mH} {f4 : Int} {m kpm pool : Nat → Int} {zt : Int} {ft : Nat → Int} (hn0 : n0 ≤ 600) (hI : RO x y n0 f4 m kpm pool zt ft h) {a : Int} (ha : InR a) : ONE G l x y (n0 + 1) mX10_take [.int (J a)] h (fun h' => Old (kBlk x) h h') (fun z f4' m' kpm' pool' zt' ft' => (¬ openP m a ∧ z = (if 0 ≤ a ∧ a ≤ m 0 - 1 then -3 else -1) ∧ SM f4 m kpm pool zt ft f4' m' kpm' pool' zt' ft') ∨ (openP m a ∧ (f4' = f4 ∧ kpm' = kpm ∧ zt' = 0 ∧ ft' = ft) ∧ (((z = -4 ∨ z = -3) ∧ m' = m ∧ pool' = pool) ∨ ((wR zt (takeR ft zt 0 0)).1 = false) ∨ (∃ N q E : Nat, m 1 = N ∧ a = q ∧ N < 90 ∧ z = N ∧ E = takeE ft zt 0 0 ∧ (1 ≤ E ∧ E ≤ 7) ∧ (∀ j : Nat, j < E → isLt (ft j)) ∧ hbL m ft 0 E N 0 < 0 ∧ ∃ (v : Int) (fr to : Int), m' = takesM (updI m 8 v) ft N q 0 E fr to)))) := by
  obtain ⟨f18, pap, rwd, rw, hCH, hSO⟩ := hI
  obtain ⟨S, kp, tk, zr, fr, p, e, o, zs, fs, b, fa, c, C, nm, g, hK, ⟨hT, hst, hke, htk⟩, hro, hpa, hxy⟩ := id hCH
  obtain ⟨⟨hA, hPo⟩, hkp, hta, h18, hrw⟩ := id hSO
  obtain ⟨N, K, T, Z, F, hX⟩ := fx_of hT hA
  obtain ⟨⟨mN, cN, N90⟩, ⟨mK, cK, K1, K60⟩, ⟨mT, cT, T10⟩, ⟨cZ, Z150⟩, ⟨⟨c11, c12, c13⟩, F90, c4⟩, ⟨hO, hpR, hpO, hoO⟩, ⟨c8, c9, L0, L90⟩, ⟨hc, hC⟩, hst2, htp⟩ := id hX
  obtain ⟨⟨hInv, hsc, hnc, hns⟩, hTk, hm7, hm8⟩ := id hA
  have hok := hInv.1
  have hM := hok.1
  have hCR := hT.1
  have hcT := hCR.2.1
  have hcS := hCR.2.2.1
  have hcK := hCR.2.2.2.1
  have hcL := hCR.2.2.2.2.1
  have hst3 : ∀ t : Nat, (t : Int) < m 1 → 0 ≤ m (258 + 14 * t) ∧ m (258 + 14 * t) ≤ 2 := fun t ht => (hst2 t ht).1
  obtain ⟨f11, f12, ef1, ef2, r11⟩ : ∃ f11 f12 : Int, f11 = 0 ∧ f12 = 0 ∧ (0 ≤ f11 ∧ f11 ≤ 99999) := ⟨0, 0, rfl, rfl, by decide⟩
  have ez : ((zt.toNat : Nat) : Int) = zt := by omega
  obtain ⟨v1, hh, ⟨F1, sz, P1, E1, O1, rP, rO, hD1, hQ⟩, R1⟩ := (rd_thing (G := G) (l := l) hK.d hta.1 hta.2.1 (by unfold kA; omega) f11 f12).ex
  have hK1 := hK.ofF (by omega) F1 hD1
  have hst1 := hst.kp F1.Old (fun b hb => Or.inl (by unfold kBlk at hb; omega))
  have hke1 := hke.kp F1.Old (fun b w e hb => by have := hke.lo e; unfold wBlk at hb; unfold kBlk; omega)
  have htk1 := htk.kp F1.Old (fun b r e hb => by have := htk.lo e; unfold rBlk at hb; unfold kBlk; omega)
  by_cases w : 0 ≤ a ∧ a ≤ m 0 - 1
  · skip
    obtain ⟨q, rfl⟩ : ∃ q : Nat, a = q := ⟨a.toNat, by omega⟩
    have e18 : ((18 : Int) + 4 * (q : Int)).toNat = 18 + 4 * q := by omega
    have eq : ((q : Int)).toNat = q := by omega
    have s0 : c (304 + 3 * q) = 0 ↔ m (18 + 4 * q) = 0 := by rw [(hcS q (by omega)).1]; exact swT_0 (hsc.2.2 q (by omega)).1
    have hop : openP m (q : Int) ↔ m (18 + 4 * q) = 0 := ⟨fun z => by have := z.2.2; rwa [e18] at this, fun z => ⟨w.1, w.2, by rw [e18]; exact z⟩⟩
    by_cases w2 : m (18 + 4 * q) = 0
    · have cd : openP m (q : Int) := hop.mpr w2
      have t1 := s0.mpr w2
      rcases hQ with ⟨u1, u2, rfl, u4, u5, inn, u6, u7⟩ | ⟨u1, u2, u3, u4, rfl⟩
      · have rE : InR E1 := by rw [u2]; decide
        obtain ⟨p1, p2, p3, p4⟩ := u5
        have tz : (takeE ft zt f11 f12 : Int) ≤ zt := by rcases u7 with ⟨z, -⟩ | ⟨z, -⟩ <;> omega
        have hl : ∀ j, 0 ≤ j → j < takeE ft zt f11 f12 → isLt (ft j) := fun j h0 hj => by
          have z := p3 j h0 hj
          unfold clip at z
          rw [if_pos (by omega)] at z
          exact z
        have ey : nmY (clip ft zt) 0 (takeE ft zt f11 f12) = nmY ft 0 (takeE ft zt f11 f12) := nmY_c (fun j h0 hj => by unfold clip; rw [if_pos (by omega)])
        rw [ey] at u6
        have n4 : hnL c nm (nmY ft 0 (takeE ft zt f11 f12)) N 0 = hbL m ft 0 (takeE ft zt f11 f12) N 0 := (hb_hn hcT hst3 hl ⟨by omega, by omega⟩ N 0 (by omega)).symm
        have hTx := all_take (f11 := f11) (f12 := f12) (len := zt.toNat) (a := (q : Int)) hA hPo hta.2.1 (by omega) r11 cd (by omega)
        rw [ez] at hTx
        by_cases w3 : m 1 = 90
        · have er : takeF m pool ft q zt.toNat (takeE ft zt f11 f12) (takeR ft zt f11 f12) = (-4, m, pool) := by unfold takeF; rw [ez, if_pos u1, if_pos w3]
          refine ONE.of (z := (-4)) (f4' := f4) (m' := m) (kpm' := kpm) (pool' := pool) (zt' := 0) (ft' := ft) (f18' := f18) (pap' := pap) (rwd' := rwd) (rw' := rw) (Nat.le_of_ble_eq_true rfl) ((kg_takeT 17 hK hc hC ha (s := h.2.1) rE (fun _ => R1) (fun _ => hK1) cN N90 cZ Z150 (fun _ => u6) (by unfold kBlk; omega)).mono (fun v h' q0 => ?_)) ?_ ?_
          · rw [eq] at q0
            rcases q0 with q0 | q0 | q0 | q0 | q0
            · exfalso; omega
            · exfalso; omega
            · exact ⟨q0.2.2.1, F1.Old.tr (Old.of q0.2.2.2.2), CP.of3 hxy F1 (by omega) q0.2.2.2.2 q0.2.2.2.1 hT hst1 hke1 htk1 hro hpa⟩
            · exfalso; omega
            · exfalso; omega
          · exact Or.inr ⟨cd, ⟨rfl, rfl, rfl, rfl⟩, Or.inl ⟨Or.inl rfl, rfl, rfl⟩⟩
          · exact hSO.tape ⟨⟨by omega, by omega⟩, hta.2.1, fun j hj => by omega⟩
        · by_cases w4 : 0 ≤ hbL m ft 0 (takeE ft zt f11 f12) N 0
          · have er : takeF m pool ft q zt.toNat (takeE ft zt f11 f12) (takeR ft zt f11 f12) = (-3, m, pool) := by unfold takeF; rw [ez, if_pos u1, if_neg w3, show (m 1).toNat = N by omega, if_pos w4]
            rw [← n4] at w4
            refine ONE.of (z := (-3)) (f4' := f4) (m' := m) (kpm' := kpm) (pool' := pool) (zt' := 0) (ft' := ft) (f18' := f18) (pap' := pap) (rwd' := rwd) (rw' := rw) (Nat.le_of_ble_eq_true rfl) ((kg_takeT 17 hK hc hC ha (s := h.2.1) rE (fun _ => R1) (fun _ => hK1) cN N90 cZ Z150 (fun _ => u6) (by unfold kBlk; omega)).mono (fun v h' q0 => ?_)) ?_ ?_
            · rw [eq] at q0
              rcases q0 with q0 | q0 | q0 | q0 | q0
              · exfalso; omega
              · exfalso; omega
              · exfalso; omega
              · exact ⟨q0.2.2.1, F1.Old.tr (Old.of q0.2.2.2.2), CP.of3 hxy F1 (by omega) q0.2.2.2.2 q0.2.2.2.1 hT hst1 hke1 htk1 hro hpa⟩
              · exfalso; omega
            · exact Or.inr ⟨cd, ⟨rfl, rfl, rfl, rfl⟩, Or.inl ⟨Or.inr rfl, rfl, rfl⟩⟩
            · exact hSO.tape ⟨⟨by omega, by omega⟩, hta.2.1, fun j hj => by omega⟩
          · have w5 := w4
            rw [← n4] at w5
            rcases u7 with ⟨t3, rfl⟩ | ⟨t3, t4, b2, NN, rfl, t5, t6, t7⟩
            · have er : takeF m pool ft q zt.toNat (takeE ft zt f11 f12) (takeR ft zt f11 f12) = (m 1, takesM m ft N q 0 (takeE ft zt f11 f12) 0 0, pool) := by unfold takeF; rw [ez, if_pos u1, if_neg w3, show (m 1).toNat = N by omega, if_neg w4, if_pos (by omega)]
              rw [er] at hTx
              obtain ⟨x1, x2, x3, x4⟩ := hTx
              dsimp only at x1 x4
              have hT2 := ctr_take hT hTk hok (rc := ft) (o := (q : Int)) (inn := none) (P := 0) (E := 0) (fr := 0) (to := takeE ft zt f11 f12) mN (by omega) ⟨by omega, by omega⟩ (by omega) hl ⟨by omega, by omega⟩ (Or.inl ⟨rfl, rfl⟩) cZ
              refine ONE.of (z := ((N : Int))) (f4' := f4) (m' := takesM m ft N q 0 (takeE ft zt f11 f12) 0 0) (kpm' := kpm) (pool' := pool) (zt' := 0) (ft' := ft) (f18' := f18) (pap' := pap) (rwd' := rwd) (rw' := rw) (Nat.le_of_ble_eq_true rfl) ((kg_takeT 17 hK hc hC ha (s := h.2.1) rE (fun _ => R1) (fun _ => hK1) cN N90 cZ Z150 (fun _ => u6) (by unfold kBlk; omega)).mono (fun v h' q0 => ?_)) ?_ ?_
              · rw [eq] at q0
                rcases q0 with q0 | q0 | q0 | q0 | q0
                · exfalso; omega
                · exfalso; omega
                · exfalso; omega
                · exfalso; omega
                · exact ⟨q0.2.2.1, F1.Old.tr (Old.of q0.2.2.2.2), CP.of3 hxy F1 (by omega) q0.2.2.2.2 q0.2.2.2.1 hT2 hst1 hke1 htk1 hro hpa⟩
              · subst ef1; subst ef2
                exact Or.inr ⟨cd, ⟨rfl, rfl, rfl, rfl⟩, Or.inr (Or.inr ⟨N, q, _, mN, rfl, by omega, rfl, rfl, ⟨by omega, by omega⟩, fun j hj => hl j (by omega) (by omega), by omega, m 8, 0, 0, by rw [updI_id]⟩)⟩
              · obtain ⟨⟨s1, s2⟩, ⟨s3, s4⟩, s5, s6⟩ := hSO.up
                exact ⟨⟨x1.up (by omega) (by omega), s2⟩, ⟨s3, fun e => ⟨(s4 e).1, Int.le_trans (s4 e).2 x4⟩⟩, ⟨⟨by omega, by omega⟩, hta.2.1, fun j hj => by omega⟩, s6⟩
            · obtain ⟨P, hP⟩ : ∃ P : Nat, m 8 = P := ⟨(m 8).toNat, by have := hInv.2.1.2.1; omega⟩
              have er : takeF m pool ft q zt.toNat (takeE ft zt f11 f12) (takeR ft zt f11 f12) = (m 1, takesM (updI m 8 (m 8 + (zt.toNat - (takeE ft zt f11 f12 + 1) : Nat) + 1)) ft N q 0 (takeE ft zt f11 f12) (P : Int) ((P + (zt.toNat - (takeE ft zt f11 f12 + 1)) : Nat) : Int), pooledP pool ft P (takeE ft zt f11 f12 + 1) zt.toNat) := by
                unfold takeF
                rw [ez, if_pos u1, if_neg w3, show (m 1).toNat = N by omega, if_neg w4, if_neg (by omega), show (m 8).toNat = P by omega, show m 8 + zt - (takeE ft zt f11 f12 : Int) - 1 = ((P + (zt.toNat - (takeE ft zt f11 f12 + 1)) : Nat) : Int) by omega, hP]
              rw [er] at hTx
              obtain ⟨x1, x2, x3, x4⟩ := hTx
              dsimp only at x1 x2 x3 x4
              have hT1 := ctr_grow hT hInv hTk (S' := grS S h hh) (fun a o e => grS_old hst e) x3
              have hA1 := hA.pool x3
              have hG1 := hA.grow (b := m 8 + (zt.toNat - (takeE ft zt f11 f12 + 1) : Nat) + 1) (pool' := pooledP pool ft P (takeE ft zt f11 f12 + 1) zt.toNat) ⟨by omega, by have := hA.2.2.2; omega⟩ x3
              have hT3 := ctr_m8 hT1 hA1.2.1 hok (v := m 8 + (zt.toNat - (takeE ft zt f11 f12 + 1) : Nat) + 1)
              have hT2 := ctr_take hT3 hG1.2 hG1.1.1.1 (rc := ft) (o := (q : Int)) (inn := some b2) (P := P) (E := P + (zt.toNat - (takeE ft zt f11 f12 + 1))) (fr := 0) (to := takeE ft zt f11 f12) (N := N) ((updI_n (by omega)).trans mN) (by omega) ⟨by omega, by omega⟩ (by omega) hl ⟨by omega, by omega⟩ (Or.inr ⟨b2, hh.2.1, NN, rfl, stL_pool ez.symm (by omega) (by omega) t7⟩) cZ
              refine ONE.of (z := ((N : Int))) (f4' := f4) (m' := takesM (updI m 8 (m 8 + (zt.toNat - (takeE ft zt f11 f12 + 1) : Nat) + 1)) ft N q 0 (takeE ft zt f11 f12) (P : Int) ((P + (zt.toNat - (takeE ft zt f11 f12 + 1)) : Nat) : Int)) (kpm' := kpm) (pool' := pooledP pool ft P (takeE ft zt f11 f12 + 1) zt.toNat) (zt' := 0) (ft' := ft) (f18' := f18) (pap' := pap) (rwd' := rwd) (rw' := rw) (Nat.le_of_ble_eq_true rfl) ((kg_takeT 17 hK hc hC ha (s := h.2.1) rE (fun _ => R1) (fun _ => hK1) cN N90 cZ Z150 (fun _ => u6) (by unfold kBlk; omega)).mono (fun v h' q0 => ?_)) ?_ ?_
              · rw [eq] at q0
                rcases q0 with q0 | q0 | q0 | q0 | q0
                · exfalso; omega
                · exfalso; omega
                · exfalso; omega
                · exfalso; omega
                · exact ⟨q0.2.2.1, F1.Old.tr (Old.of q0.2.2.2.2), CP.of3 hxy F1 (by omega) q0.2.2.2.2 q0.2.2.2.1 hT2 (hst.gr hxy F1) (hke.gr hxy F1 hst x3 hkp.2) (htk.gr hxy F1) hro hpa⟩
              · subst ef1; subst ef2
                exact Or.inr ⟨cd, ⟨rfl, rfl, rfl, rfl⟩, Or.inr (Or.inr ⟨N, q, _, mN, rfl, by omega, rfl, rfl, ⟨by omega, by omega⟩, fun j hj => hl j (by omega) (by omega), by omega, _, _, _, rfl⟩)⟩
              · obtain ⟨⟨s1, s2⟩, ⟨s3, s4⟩, s5, s6⟩ := hSO.up
                exact ⟨⟨x1.up (by omega) (by omega), x2⟩, ⟨s3, fun e => ⟨(s4 e).1.pool (fun z hz => x3 z (by have := (s4 e).2; omega)), Int.le_trans (s4 e).2 x4⟩⟩, ⟨⟨by omega, by omega⟩, hta.2.1, fun j hj => by omega⟩, s6⟩
      · have rE : InR E1 := ⟨by omega, by omega⟩
        have er : takeF m pool ft q zt.toNat (takeE ft zt f11 f12) (takeR ft zt f11 f12) = (-100 - E1, m, pool) := by unfold takeF; rw [ez, if_neg (by rw [u1]; decide), ← u2]
        refine ONE.of (z := (-100 - E1)) (f4' := f4) (m' := m) (kpm' := kpm) (pool' := pool) (zt' := 0) (ft' := ft) (f18' := f18) (pap' := pap) (rwd' := rwd) (rw' := rw) (Nat.le_of_ble_eq_true rfl) ((kg_takeF 17 hK hc hC ha rE (fun _ => R1) (fun _ => hK1)).mono (fun v h' q0 => ?_)) ?_ ?_
        · rw [eq] at q0
          rcases q0 with q0 | q0 | q0
          · exfalso; omega
          · exfalso; omega
          · exact ⟨q0.2.1, F1.Old.tr (Old.of q0.2.2.2), CP.of3 hxy F1 (by omega) q0.2.2.2 q0.2.2.1 hT hst1 hke1 htk1 hro hpa⟩
        · subst ef1; subst ef2
          exact Or.inr ⟨cd, ⟨rfl, rfl, rfl, rfl⟩, Or.inr (Or.inl u1)⟩
        · exact hSO.tape ⟨⟨by omega, by omega⟩, hta.2.1, fun j hj => by omega⟩
    · have cd : ¬ openP m (q : Int) := fun z => w2 (hop.mp z)
      have t1 : ¬ c (304 + 3 * q) = 0 := fun z => w2 (s0.mp z)
      have ev : openN m q = -3 := by unfold openN; rw [if_pos w]
      refine ONE.ask (z := -3) (Nat.le_of_ble_eq_true rfl) hCH hSO.up Old.rf ((kg_takeF 17 (h1 := h) (p1 := 0) (e1 := 0) (o1 := 0) hK hc hC ha (by decide) (fun z => absurd z.2 (by rw [eq]; exact t1)) (fun z => absurd z.2 (by rw [eq]; exact t1))).mono (fun v h' q0 => ?_)) ?_
      · rw [eq] at q0
        rcases q0 with q0 | q0 | q0
        · exfalso; omega
        · exact ⟨q0.2.2.1, q0.2.2.2⟩
        · exfalso; omega
      · exact Or.inl ⟨cd, by rw [if_pos w], SM.rf⟩
  · have cd : ¬ openP m a := fun z => w ⟨z.1, z.2.1⟩
    have ev : openN m a = -1 := by unfold openN; rw [if_neg w]
    refine ONE.ask (z := -1) (Nat.le_of_ble_eq_true rfl) hCH hSO.up Old.rf ((kg_takeF 17 (h1 := h) (p1 := 0) (e1 := 0) (o1 := 0) hK hc hC ha (by decide) (fun z => absurd z.1 (by omega)) (fun z => absurd z.1 (by omega))).mono (fun v h' q0 => ?_)) ?_
    · rcases q0 with q0 | q0 | q0
      · exact ⟨q0.2.1, q0.2.2⟩
      · exfalso; omega
      · exfalso; omega
    · exact Or.inl ⟨cd, by rw [if_neg w], SM.rf⟩
set_option maxHeartbeats 4000000 in
set_option maxRecDepth 100000 in
theorem oc_task {G : mG} {l : Launch} (hG : G.2.map Prod.snd = mTy) {x y n0 : Nat} {h : mH} {f4 : Int} {m kpm pool : Nat → Int} {zt : Int} {ft : Nat → Int} (hn0 : n0 ≤ 600) (hI : RO x y n0 f4 m kpm pool zt ft h) {a : Int} (ha : InR a) {i : Int} (hi : InR i) : ONE G l x y (n0 + 1) mX10_task [.int (J a), .int (J i)] h (fun h' => Old (kBlk x) h h') (fun z f4' m' kpm' pool' zt' ft' => ((-9 ≤ z ∧ z < 0) ∧ SM f4 m kpm pool zt ft f4' m' kpm' pool' zt' ft') ∨ (taskDo m a i ∧ (f4' = f4 ∧ kpm' = kpm ∧ zt' = 0 ∧ ft' = ft) ∧ (((taskR ft zt 0 0).1 = false) ∨ (z = m 3 ∧ m' = newTaskM m a i zt.toNat)))) := by
  obtain ⟨f18, pap, rwd, rw, hCH, hSO⟩ := hI
  obtain ⟨S, kp, tk, zr, fr, p, e, o, zs, fs, b, fa, c, C, nm, g, hK, ⟨hT, hst, hke, htk⟩, hro, hpa, hxy⟩ := id hCH
  obtain ⟨⟨hA, hPo⟩, hkp, hta, h18, hrw⟩ := id hSO
  obtain ⟨N, K, T, Z, F, hX⟩ := fx_of hT hA
  obtain ⟨⟨mN, cN, N90⟩, ⟨mK, cK, K1, K60⟩, ⟨mT, cT, T10⟩, ⟨cZ, Z150⟩, ⟨⟨c11, c12, c13⟩, F90, c4⟩, ⟨hO, hpR, hpO, hoO⟩, ⟨c8, c9, L0, L90⟩, ⟨hc, hC⟩, hst2, htp⟩ := id hX
  obtain ⟨⟨hInv, hsc, hnc, hns⟩, hTk, hm7, hm8⟩ := id hA
  have hok := hInv.1
  have hM := hok.1
  have hCR := hT.1
  have hcT := hCR.2.1
  have hcS := hCR.2.2.1
  have hcK := hCR.2.2.2.1
  have hcL := hCR.2.2.2.2.1
  have hst3 : ∀ t : Nat, (t : Int) < m 1 → 0 ≤ m (258 + 14 * t) ∧ m (258 + 14 * t) ≤ 2 := fun t ht => (hst2 t ht).1
  obtain ⟨f11, f12, ef1, ef2, r11⟩ : ∃ f11 f12 : Int, f11 = 0 ∧ f12 = 0 ∧ (0 ≤ f11 ∧ f11 ≤ 99999) := ⟨0, 0, rfl, rfl, by decide⟩
  have ez : ((zt.toNat : Nat) : Int) = zt := by omega
  obtain ⟨v1, hh, ⟨F1, sz, E1, O1, rO, hD1, hQ⟩, R1⟩ := (rd_task (G := G) (l := l) 0 hK.d hta.1 hta.2.1 (by unfold kA; omega) f11 f12).ex
  have hK1 := hK.ofF (by omega) F1 hD1
  have hst1 := hst.kp F1.Old (fun b hb => Or.inl (by unfold kBlk at hb; omega))
  have hke1 := hke.kp F1.Old (fun b w e hb => by have := hke.lo e; unfold wBlk at hb; unfold kBlk; omega)
  have htk1 := htk.kp F1.Old (fun b r e hb => by have := htk.lo e; unfold rBlk at hb; unfold kBlk; omega)
  by_cases w : 0 ≤ a ∧ a ≤ m 0 - 1
  · skip
    obtain ⟨q, rfl⟩ : ∃ q : Nat, a = q := ⟨a.toNat, by omega⟩
    have e18 : ((18 : Int) + 4 * (q : Int)).toNat = 18 + 4 * q := by omega
    have eq : ((q : Int)).toNat = q := by omega
    have s0 : c (304 + 3 * q) = 0 ↔ m (18 + 4 * q) = 0 := by rw [(hcS q (by omega)).1]; exact swT_0 (hsc.2.2 q (by omega)).1
    have hop : openP m (q : Int) ↔ m (18 + 4 * q) = 0 := ⟨fun z => by have := z.2.2; rwa [e18] at this, fun z => ⟨w.1, w.2, by rw [e18]; exact z⟩⟩
    by_cases w6 : -99 ≤ i ∧ i ≤ 99
    · by_cases w2 : m (18 + 4 * q) = 0
      · have t1 := s0.mpr w2
        by_cases w7 : T < 10 ∧ K < 60
        · have cd : taskDo m q i := ⟨w, w6, hop.mpr w2, by omega, by omega⟩
          rcases hQ with ⟨u1, u2, rfl, u4, u5, NN, u6⟩ | ⟨u1, u2, u3, u4, rfl⟩
          · have rE : InR E1 := by rw [u2]; decide
            obtain ⟨P, hP⟩ : ∃ P : Nat, m 8 = P := ⟨(m 8).toNat, by have := hInv.2.1.2.1; omega⟩
            have hTx := all_task (f11 := f11) (f12 := f12) (len := zt.toNat) (a := (q : Int)) hA hPo hta.2.1 (by omega) r11 cd (by omega)
            have er : taskF m pool ft q i zt.toNat f11 f12 = ((T : Int), newTaskM m q i zt.toNat, pooledP pool ft P 0 zt.toNat) := by unfold taskF; rw [ez, if_pos u1, mT, show (m 8).toNat = P by omega]
            rw [er] at hTx
            obtain ⟨x1, x2, x3, x4⟩ := hTx
            dsimp only at x1 x2 x3 x4
            have hT1 := ctr_grow hT hInv hTk (S' := grS S h hh) (fun a o e => grS_old hst e) x3
            have hA1 := hA.pool x3
            have h6 : InR (m 6 + 1) := by
              have := hInv.2.2.2.2.1
              exact ⟨by omega, by omega⟩
            have tx := stL_pool (S := S) (pool := pool) (P := P) ez.symm (Nat.zero_le _) (Nat.le_refl _) u6
            rw [Nat.sub_zero] at tx
            have hT2 := ctr_task hT1 hA1.2.1 hok (by omega) h6 ⟨by omega, by have := hInv.2.1.2.2; omega⟩ mT (by omega) mK (by omega) (a := q) (by omega) w6 hP (by omega) cZ tx
            refine ONE.of (z := ((T : Int))) (f4' := f4) (m' := newTaskM m q i zt.toNat) (kpm' := kpm) (pool' := pooledP pool ft P 0 zt.toNat) (zt' := 0) (ft' := ft) (f18' := f18) (pap' := pap) (rwd' := rwd) (rw' := rw) (Nat.le_of_ble_eq_true rfl) ((kg_taskT 17 hK hc hC ha hi cT T10 cK K60 cZ Z150 (s := h.2.1) rE (fun _ => R1) (fun _ => hK1)).mono (fun v h' q0 => ?_)) ?_ ?_
            · rw [eq] at q0
              rcases q0 with q0 | q0 | q0 | q0 | q0
              · exfalso; omega
              · exfalso; omega
              · exfalso; omega
              · exfalso; omega
              · exact ⟨q0.2.1, F1.Old.tr (Old.of q0.2.2.2), CP.of3 hxy F1 (by omega) q0.2.2.2 q0.2.2.1 hT2 (hst.gr hxy F1) (hke.gr hxy F1 hst x3 hkp.2) (htk.gr hxy F1) hro hpa⟩
            · exact Or.inr ⟨cd, ⟨rfl, rfl, rfl, rfl⟩, Or.inr ⟨mT.symm, rfl⟩⟩
            · obtain ⟨⟨s1, s2⟩, ⟨s3, s4⟩, s5, s6⟩ := hSO.up
              exact ⟨⟨x1.up (by omega) (by omega), x2⟩, ⟨s3, fun e => ⟨(s4 e).1.pool (fun z hz => x3 z (by have := (s4 e).2; omega)), Int.le_trans (s4 e).2 x4⟩⟩, ⟨⟨by omega, by omega⟩, hta.2.1, fun j hj => by omega⟩, s6⟩
          · have rE : InR E1 := ⟨by omega, by omega⟩
            have er : taskF m pool ft q i zt.toNat f11 f12 = (-100 - E1, m, pool) := by unfold taskF; rw [ez, if_neg (by rw [u1]; decide), ← u2]
            refine ONE.of (z := (-100 - E1)) (f4' := f4) (m' := m) (kpm' := kpm) (pool' := pool) (zt' := 0) (ft' := ft) (f18' := f18) (pap' := pap) (rwd' := rwd) (rw' := rw) (Nat.le_of_ble_eq_true rfl) ((kg_taskF 17 hK hc hC ha hi cT T10 cK K60 cZ Z150 rE (fun _ => R1) (fun _ => hK1)).mono (fun v h' q0 => ?_)) ?_ ?_
            · rw [eq] at q0
              rcases q0 with q0 | q0 | q0 | q0 | q0
              · exfalso; omega
              · exfalso; omega
              · exfalso; omega
              · exfalso; omega
              · exact ⟨q0.2.1, F1.Old.tr (Old.of q0.2.2.2), CP.of3 hxy F1 (by omega) q0.2.2.2 q0.2.2.1 hT hst1 hke1 htk1 hro hpa⟩
            · subst ef1; subst ef2
              exact Or.inr ⟨cd, ⟨rfl, rfl, rfl, rfl⟩, Or.inl u1⟩
            · exact hSO.tape ⟨⟨by omega, by omega⟩, hta.2.1, fun j hj => by omega⟩
        · have cd : ¬ taskDo m q i := fun z => w7 ⟨by have := z.2.2.2.1; omega, by have := z.2.2.2.2; omega⟩
          have ev : taskN m q i = -4 := by unfold taskN; rw [if_pos w, if_pos w6, if_pos (hop.mpr w2)]
          refine ONE.ask (z := -4) (Nat.le_of_ble_eq_true rfl) hCH hSO.up Old.rf ((kg_taskF 17 (h1 := h) (p1 := 0) (e1 := 0) (o1 := 0) hK hc hC ha hi cT T10 cK K60 cZ Z150 (by decide) (fun z => by exact absurd ⟨z.2.2.1, z.2.2.2⟩ w7) (fun z => by exact absurd ⟨z.2.2.1, z.2.2.2⟩ w7)).mono (fun v h' q0 => ?_)) ?_
          · rw [eq] at q0
            rcases q0 with q0 | q0 | q0 | q0 | q0
            · exfalso; omega
            · exfalso; omega
            · exfalso; omega
            · first | exact ⟨q0.2.1, q0.2.2⟩ | exact ⟨q0.2.2.1, q0.2.2.2⟩
            · exfalso; omega
          · exact Or.inl ⟨by decide, SM.rf⟩
      · have t1 : ¬ c (304 + 3 * q) = 0 := fun z => w2 (s0.mp z)
        have cd : ¬ taskDo m q i := fun z => w2 (hop.mp z.2.2.1)
        have ev : taskN m q i = -3 := by unfold taskN; rw [if_pos w, if_pos w6, if_neg (fun z => w2 (hop.mp z))]
        refine ONE.ask (z := -3) (Nat.le_of_ble_eq_true rfl) hCH hSO.up Old.rf ((kg_taskF 17 (h1 := h) (p1 := 0) (e1 := 0) (o1 := 0) hK hc hC ha hi cT T10 cK K60 cZ Z150 (by decide) (fun z => by exact absurd z.2.1 (by rw [eq]; exact t1)) (fun z => by exact absurd z.2.1 (by rw [eq]; exact t1))).mono (fun v h' q0 => ?_)) ?_
        · rw [eq] at q0
          rcases q0 with q0 | q0 | q0 | q0 | q0
          · exfalso; omega
          · exfalso; omega
          · first | exact ⟨q0.2.1, q0.2.2⟩ | exact ⟨q0.2.2.1, q0.2.2.2⟩
          · exfalso; omega
          · exfalso; omega
        · exact Or.inl ⟨by decide, SM.rf⟩
    · have cd : ¬ taskDo m q i := fun z => w6 z.2.1
      have ev : taskN m q i = -2 := by unfold taskN; rw [if_pos w, if_neg w6]
      refine ONE.ask (z := -2) (Nat.le_of_ble_eq_true rfl) hCH hSO.up Old.rf ((kg_taskF 17 (h1 := h) (p1 := 0) (e1 := 0) (o1 := 0) hK hc hC ha hi cT T10 cK K60 cZ Z150 (by decide) (fun z => by exact absurd z.1.2 w6) (fun z => by exact absurd z.1.2 w6)).mono (fun v h' q0 => ?_)) ?_
      · rw [eq] at q0
        rcases q0 with q0 | q0 | q0 | q0 | q0
        · exfalso; omega
        · first | exact ⟨q0.2.1, q0.2.2⟩ | exact ⟨q0.2.2.1, q0.2.2.2⟩
        · exfalso; omega
        · exfalso; omega
        · exfalso; omega
      · exact Or.inl ⟨by decide, SM.rf⟩
  · have cd : ¬ taskDo m a i := fun z => w z.1
    have ev : taskN m a i = -1 := by unfold taskN; rw [if_neg w]
    refine ONE.ask (z := -1) (Nat.le_of_ble_eq_true rfl) hCH hSO.up Old.rf ((kg_taskF 17 (h1 := h) (p1 := 0) (e1 := 0) (o1 := 0) hK hc hC ha hi cT T10 cK K60 cZ Z150 (by decide) (fun z => by exact absurd z.1.1 (by omega)) (fun z => by exact absurd z.1.1 (by omega))).mono (fun v h' q0 => ?_)) ?_
    · rcases q0 with q0 | q0 | q0 | q0 | q0
      · first | exact ⟨q0.2.1, q0.2.2⟩ | exact ⟨q0.2.2.1, q0.2.2.2⟩
      · exfalso; omega
      · exfalso; omega
      · exfalso; omega
      · exfalso; omega
    · exact Or.inl ⟨by decide, SM.rf⟩
set_option maxHeartbeats 4000000 in
set_option maxRecDepth 100000 in
theorem oc_would {G : mG} {l : Launch} (hG : G.2.map Prod.snd = mTy) {x y n0 : Nat} {h : mH} {f4 : Int} {m kpm pool : Nat → Int} {zt : Int} {ft : Nat → Int} (hn0 : n0 ≤ 600) (hI : RO x y n0 f4 m kpm pool zt ft h) {a : Int} (ha : InR a) {i : Int} (hi : InR i) : ONE G l x y (n0 + 1) mX10_would [.int (J a), .int (J i)] h (fun _ => True) (fun z f4' m' kpm' pool' zt' ft' => SM f4 m kpm pool zt ft f4' m' kpm' pool' zt' ft' ∧ ((0 ≤ i ∧ i ≤ 5) → ((¬ openP m a ∧ z = (if 0 ≤ a ∧ a ≤ m 0 - 1 then -3 else -1)) ∨ (openP m a ∧ ∃ m2, shutsR pool (-1) 61 (updI m 5 0) a m2 ∧ z = wouldV m2 m i)))) := by
  obtain ⟨f18, pap, rwd, rw, hCH, hSO⟩ := hI
  obtain ⟨S, kp, tk, zr, fr, p, e, o, zs, fs, b, fa, c, C, nm, g, hK, ⟨hT, hst, hke, htk⟩, hro, hpa, hxy⟩ := id hCH
  obtain ⟨⟨hA, hPo⟩, hkp, hta, h18, hrw⟩ := id hSO
  obtain ⟨N, K, T, Z, F, hX⟩ := fx_of hT hA
  obtain ⟨⟨mN, cN, N90⟩, ⟨mK, cK, K1, K60⟩, ⟨mT, cT, T10⟩, ⟨cZ, Z150⟩, ⟨⟨c11, c12, c13⟩, F90, c4⟩, ⟨hO, hpR, hpO, hoO⟩, ⟨c8, c9, L0, L90⟩, ⟨hc, hC⟩, hst2, htp⟩ := id hX
  obtain ⟨⟨hInv, hsc, hnc, hns⟩, hTk, hm7, hm8⟩ := id hA
  have hok := hInv.1
  have hM := hok.1
  have hCR := hT.1
  have hcT := hCR.2.1
  have hcS := hCR.2.2.1
  have hcK := hCR.2.2.2.1
  have hcL := hCR.2.2.2.2.1
  have hst3 : ∀ t : Nat, (t : Int) < m 1 → 0 ≤ m (258 + 14 * t) ∧ m (258 + 14 * t) ≤ 2 := fun t ht => (hst2 t ht).1
  by_cases w : (0 ≤ a ∧ a ≤ m 0 - 1) ∧ (0 ≤ i ∧ i ≤ 5)
  · obtain ⟨q, rfl⟩ : ∃ q : Nat, a = q := ⟨a.toNat, by omega⟩
    have e18 : ((18 : Int) + 4 * (q : Int)).toNat = 18 + 4 * q := by omega
    have eq : ((q : Int)).toNat = q := by omega
    have s0 : c (304 + 3 * q) = 0 ↔ m (18 + 4 * q) = 0 := by rw [(hcS q (by omega)).1]; exact swT_0 (hsc.2.2 q (by omega)).1
    have hop : openP m (q : Int) ↔ m (18 + 4 * q) = 0 := ⟨fun z => by have := z.2.2; rwa [e18] at this, fun z => ⟨w.1.1, w.1.2, by rw [e18]; exact z⟩⟩
    by_cases w2 : m (18 + 4 * q) = 0
    · have cd : openP m (q : Int) := hop.mpr w2
      have t1 := s0.mpr w2
      obtain ⟨r2, h1, R1, k2, ⟨b1, f1, c1, C1, nm1, g1, r1, r0⟩, ⟨s1, s2⟩, s3, s4, s5, s6, ⟨s7, s8⟩, s9, s10⟩ := think_both (G := G) (l := l) hG hK hT hst hke htk hxy hok hTk
      obtain ⟨m2, x1, hA2, x3, x4⟩ := both_shut (G := G) (l := l) (r := r2) (h0 := h1) s5.hS (fun a e q => e (s3 a q)) hA hPo (by omega) cd
      obtain ⟨v2, h2, ⟨rfl, c5, f3, c3, C3, nm3, g3, hR3, hS3, hC3, hTK3, -⟩, R2⟩ := (x4 b1 (c1 4) h1 ⟨f1, c1, C1, nm1, g1, r1, Same.refl, r0.1, r0.2, rfl⟩).ex
      have hT3 : CTR m2 pool S c3 C3 nm3 g3 := ⟨hC3, hTK3⟩
      obtain ⟨N3, K3, T3, Z3, F3, hX3⟩ := fx_of hT3 hA2
      have eh := fx_held hT3 hA2 hX3
      obtain ⟨⟨xN, dN, N390⟩, -, ⟨xT, dT, T310⟩, -, ⟨⟨d11, d12, d13⟩, F390, d4⟩, ⟨hO3, -⟩, ⟨-, d9, -⟩, ⟨hc3, hC3r⟩, -⟩ := id hX3
      have hK3 := k2.kp hS3.1 (fun q hq => hS3.2.2.2 q (by unfold kBlk at hq; unfold rBlk; omega))
      have hok2 := hA2.1.1.1
      obtain ⟨N4, m4⟩ : ∃ q : Nat, m2 4 = q := ⟨(m2 4).toNat, by have := hA2.1.1.1.2.2.2.2.2.1; omega⟩
      have e5 : manyV m2 N4 (-1) = m2 5 := mv_call
      have r5 := hok2.2.2.2.2.2.2.1
      have ea : (if i = 0 then m2 5 else if i = 1 then fnF c3 (C3 5) (C3 3) F3 (-1) 0 else if i = 2 then fgF c3 (C3 5) (C3 4) F3 (-1) 0 else if i = 3 then c3 9 - c 9 else if i = 4 then c3 0 - c 0 else cnt (hwB c3 0) N3) = wouldV m2 m i := by
        unfold wouldV
        rw [eh, d9, c9, dN, cN, xN, mN, Int.toNat_natCast]
        by_cases z : m2 5 = 0
        · have fn := fn_none hC3 hTK3 hok2 (t := -1) (Or.inl rfl) m4 d11 (e5.trans z)
          rw [fn.1, fn.2, if_pos z, if_pos z]
        · have fn := fn_eq hC3 hTK3 hok2 (t := -1) (k := 0) (Or.inl rfl) m4 d11 ⟨by decide, by rw [e5]; omega⟩
          rw [fn.1, fn.2, if_neg z, if_neg z, fv_call, fv_call]
          rfl
      refine ONE.of (z := (wouldV m2 m i)) (f4' := f4) (m' := m) (kpm' := kpm) (pool' := pool) (zt' := zt) (ft' := ft) (f18' := f18) (pap' := pap) (rwd' := rwd) (rw' := rw) (Nat.le_of_ble_eq_true rfl) ((kg_would 16 hK hc hC ha hi (h1 := h1) (h2 := h2) (r2 := r2) (n1 := m2 5) (hok2.1 5) (fun _ => R1) (fun _ => r1) (fun _ => R2.deeper (Nat.le_of_ble_eq_true rfl)) (fun _ => hR3) (fun _ => hK3) hc3 hC3r (fun _ => hO3) (N := N3) (fun _ => ⟨dN, N390⟩) (F := F3) (fun _ => ⟨⟨d11, d12, d13⟩, F390, d4⟩)).mono (fun v h' q0 => ?_)) ?_ ?_
      · rw [eq, ea] at q0
        rcases q0 with q0 | q0 | ⟨-, q1, rfl⟩
        · exfalso; omega
        · exfalso; omega
        · refine ⟨q1, trivial, ⟨S, kp, some r2, zr, fr, p, e, o, zs, fs, b, fa, c, C, nm, g, hK3, ⟨hT, s5.kp (Old.of hS3) (fun b hb => Or.inr (s3 b hb)), s6.kp (Old.of hS3) (fun b w e hb => by have := s4 w e; unfold wBlk at hb; unfold rBlk; omega), Or.inr ⟨r2, (-1), f3, c3, C3, nm3, g3, rfl, ⟨s1, by have := hS3.2.1; omega⟩, s3, s4, hR3, hc3, hC3r⟩⟩, hro, hpa, hxy.1, by have := hS3.2.1; omega⟩, ⟨hS3.1.trans s7, fun b hb => (hS3.2.2.2 b (by unfold eBlk at hb; unfold rBlk; omega)).trans (s8 b hb)⟩, by have := hS3.2.1; omega, by have := hS3.2.2.1; omega⟩
      · exact ⟨SM.rf, fun _ => Or.inr ⟨cd, m2, x1, rfl⟩⟩
      · exact hSO.up
    · have cd : ¬ openP m (q : Int) := fun z => w2 (hop.mp z)
      have t1 : ¬ c (304 + 3 * q) = 0 := fun z => w2 (s0.mp z)
      refine ONE.ask (z := -3) (Nat.le_of_ble_eq_true rfl) hCH hSO.up trivial ((kg_would 16 hK hc hC ha hi (h1 := h) (h2 := h) (r2 := 0) (b2 := 0) (z2 := 0) (f2 := w0) (c2 := w0) (C2 := fun _ => w0) (nm2 := wn0) (g2 := wg0) (b3 := 0) (z3 := 0) (f3 := w0) (c3 := w0) (C3 := fun _ => w0) (nm3 := wn0) (g3 := wg0) (n1 := 0) (N := 0) (F := 0) (by decide) (fun z => absurd z (fun z => t1 (by have := z.2; rwa [eq] at this))) (fun z => absurd z (fun z => t1 (by have := z.2; rwa [eq] at this))) (fun z => absurd z (fun z => t1 (by have := z.2; rwa [eq] at this))) (fun z => absurd z (fun z => t1 (by have := z.2; rwa [eq] at this))) (fun z => absurd z (fun z => t1 (by have := z.2; rwa [eq] at this))) w0_r (fun _ => w0_r) (fun z => absurd z (fun z => t1 (by have := z.2; rwa [eq] at this))) (fun z => absurd z (fun z => t1 (by have := z.2; rwa [eq] at this))) (fun z => absurd z (fun z => t1 (by have := z.2; rwa [eq] at this)))).mono (fun v h' q0 => ?_)) ?_
      · rw [eq] at q0
        rcases q0 with q0 | q0 | q0
        · exfalso; omega
        · exact ⟨q0.2.2.1, q0.2.2.2⟩
        · exact absurd q0.1.2 t1
      · exact ⟨SM.rf, fun _ => Or.inl ⟨cd, by rw [if_pos w.1]⟩⟩
  · have cd : ¬ (openP m a ∧ (0 ≤ i ∧ i ≤ 5)) := fun z => w ⟨⟨z.1.1, z.1.2.1⟩, z.2⟩
    have wc : ¬ (inW c 1 60 a ∧ (0 ≤ i ∧ i ≤ 5)) := fun z => w ⟨⟨by omega, by omega⟩, z.2⟩
    by_cases wo : openP m a
    · have hm2 : ∃ m2, shutsR pool (-1) 61 (updI m 5 0) a m2 ∧ mOk m2 := by
        obtain ⟨m2, x1, x2, -⟩ := all_shut hA hPo (by omega) wo
        exact ⟨m2, x1, x2.1.1.1⟩
      obtain ⟨m2, hm2⟩ := hm2
      refine ONE.ask (z := -1) (Nat.le_of_ble_eq_true rfl) hCH hSO.up trivial ((kg_would 16 hK hc hC ha hi (h1 := h) (h2 := h) (r2 := 0) (b2 := 0) (z2 := 0) (f2 := w0) (c2 := w0) (C2 := fun _ => w0) (nm2 := wn0) (g2 := wg0) (b3 := 0) (z3 := 0) (f3 := w0) (c3 := w0) (C3 := fun _ => w0) (nm3 := wn0) (g3 := wg0) (n1 := 0) (N := 0) (F := 0) (by decide) (fun z => absurd z (fun z => wc z.1)) (fun z => absurd z (fun z => wc z.1)) (fun z => absurd z (fun z => wc z.1)) (fun z => absurd z (fun z => wc z.1)) (fun z => absurd z (fun z => wc z.1)) w0_r (fun _ => w0_r) (fun z => absurd z (fun z => wc z.1)) (fun z => absurd z (fun z => wc z.1)) (fun z => absurd z (fun z => wc z.1))).mono (fun v h' q0 => ?_)) ?_
      · rcases q0 with q0 | q0 | q0
        · exact ⟨q0.2.1, q0.2.2⟩
        · exact absurd q0.1 wc
        · exact absurd q0.1.1 wc
      · exact ⟨SM.rf, fun z => absurd ⟨⟨wo.1, wo.2.1⟩, z⟩ w⟩
    · skip
      refine ONE.ask (z := -1) (Nat.le_of_ble_eq_true rfl) hCH hSO.up trivial ((kg_would 16 hK hc hC ha hi (h1 := h) (h2 := h) (r2 := 0) (b2 := 0) (z2 := 0) (f2 := w0) (c2 := w0) (C2 := fun _ => w0) (nm2 := wn0) (g2 := wg0) (b3 := 0) (z3 := 0) (f3 := w0) (c3 := w0) (C3 := fun _ => w0) (nm3 := wn0) (g3 := wg0) (n1 := 0) (N := 0) (F := 0) (by decide) (fun z => absurd z (fun z => wc z.1)) (fun z => absurd z (fun z => wc z.1)) (fun z => absurd z (fun z => wc z.1)) (fun z => absurd z (fun z => wc z.1)) (fun z => absurd z (fun z => wc z.1)) w0_r (fun _ => w0_r) (fun z => absurd z (fun z => wc z.1)) (fun z => absurd z (fun z => wc z.1)) (fun z => absurd z (fun z => wc z.1))).mono (fun v h' q0 => ?_)) ?_
      · rcases q0 with q0 | q0 | q0
        · exact ⟨q0.2.1, q0.2.2⟩
        · exact absurd q0.1 wc
        · exact absurd q0.1.1 wc
      · exact ⟨SM.rf, fun zi => Or.inl ⟨wo, by rw [if_neg (fun y => w ⟨y, zi⟩)]⟩⟩
set_option maxHeartbeats 4000000 in
set_option maxRecDepth 100000 in
theorem oc_trial {G : mG} {l : Launch} (hG : G.2.map Prod.snd = mTy) {x y n0 : Nat} {h : mH} {f4 : Int} {m kpm pool : Nat → Int} {zt : Int} {ft : Nat → Int} (hn0 : n0 ≤ 600) (hI : RO x y n0 f4 m kpm pool zt ft h) {a : Int} (ha : InR a) {i : Int} (hi : InR i) {u : Int} (hu : InR u) : ONE G l x y (n0 + 1) mX10_trial [.int (J a), .int (J i), .int (J u)] h (fun _ => True) (fun z f4' m' kpm' pool' zt' ft' => SM f4 m kpm pool zt ft f4' m' kpm' pool' zt' ft' ∧ ((0 ≤ a ∧ a ≤ m 3 - 1) ∧ (0 ≤ u ∧ u ≤ 5) ∧ (0 ≤ i ∧ i ≤ 100) → ∃ (kk : Nat) (m2 : Nat → Int), ticksR pool i.toNat m kk m2 ∧ z = trialV m2 a u)) := by
  obtain ⟨f18, pap, rwd, rw, hCH, hSO⟩ := hI
  obtain ⟨S, kp, tk, zr, fr, p, e, o, zs, fs, b, fa, c, C, nm, g, hK, ⟨hT, hst, hke, htk⟩, hro, hpa, hxy⟩ := id hCH
  obtain ⟨⟨hA, hPo⟩, hkp, hta, h18, hrw⟩ := id hSO
  obtain ⟨N, K, T, Z, F, hX⟩ := fx_of hT hA
  obtain ⟨⟨mN, cN, N90⟩, ⟨mK, cK, K1, K60⟩, ⟨mT, cT, T10⟩, ⟨cZ, Z150⟩, ⟨⟨c11, c12, c13⟩, F90, c4⟩, ⟨hO, hpR, hpO, hoO⟩, ⟨c8, c9, L0, L90⟩, ⟨hc, hC⟩, hst2, htp⟩ := id hX
  obtain ⟨⟨hInv, hsc, hnc, hns⟩, hTk, hm7, hm8⟩ := id hA
  have hok := hInv.1
  have hM := hok.1
  have hCR := hT.1
  have hcT := hCR.2.1
  have hcS := hCR.2.2.1
  have hcK := hCR.2.2.2.1
  have hcL := hCR.2.2.2.2.1
  have hst3 : ∀ t : Nat, (t : Int) < m 1 → 0 ≤ m (258 + 14 * t) ∧ m (258 + 14 * t) ≤ 2 := fun t ht => (hst2 t ht).1
  by_cases wn : 0 ≤ i ∧ i ≤ 100
  · obtain ⟨nn, rfl⟩ : ∃ q : Nat, i = q := ⟨i.toNat, by omega⟩
    have en : ((nn : Int)).toNat = nn := by omega
    obtain ⟨r2, h1, R1, k2, ⟨b1, f1, c1, C1, nm1, g1, r1, r0⟩, ⟨s1, s2⟩, s3, s4, s5, s6, ⟨s7, s8⟩, s9, s10⟩ := think_both (G := G) (l := l) hG hK hT hst hke htk hxy hok hTk
    obtain ⟨kk, m2, x1, x2, hA2, x3, x4⟩ := both_ticks3 (G := G) (l := l) (r := r2) (h0 := h1) (n := nn) s5.hS (fun a e q => e (s3 a q)) hPo hA (by omega) (by omega) (by omega)
    have mR : ∀ z : 0 ≤ (nn : Int) ∧ (nn : Int) ≤ 100, ticksR pool ((nn : Int)).toNat m kk m2 ∧ mOk m2 := fun _ => ⟨by rw [en]; exact x1, hA2.1.1.1⟩
    by_cases w : (0 ≤ a ∧ a ≤ m 3 - 1) ∧ (0 ≤ u ∧ u ≤ 5)
    · obtain ⟨q, rfl⟩ : ∃ q : Nat, a = q := ⟨a.toNat, by omega⟩
      have eq : ((q : Int)).toNat = q := by omega
      obtain ⟨v2, h2, ⟨rfl, b3, f3, c3, C3, nm3, g3, hR3, hS3, hC3, hTK3, -⟩, R2⟩ := (x4 b1 (c1 4) h1 ⟨f1, c1, C1, nm1, g1, r1, Same.refl, r0.1, r0.2, rfl⟩).ex
      have hT3 : CTR m2 pool S c3 C3 nm3 g3 := ⟨hC3, hTK3⟩
      obtain ⟨N3, K3, T3, Z3, F3, hX3⟩ := fx_of hT3 hA2
      have eh := fx_held hT3 hA2 hX3
      obtain ⟨⟨xN, dN, N390⟩, -, ⟨xT, dT, T310⟩, -, ⟨⟨d11, d12, d13⟩, F390, d4⟩, ⟨hO3, -⟩, ⟨-, d9, -⟩, ⟨hc3, hC3r⟩, -⟩ := id hX3
      have hK3 := k2.kp hS3.1 (fun q hq => hS3.2.2.2 q (by unfold kBlk at hq; unfold rBlk; omega))
      have hok2 := hA2.1.1.1
      obtain ⟨N4, m4⟩ : ∃ q : Nat, m2 4 = q := ⟨(m2 4).toNat, by have := hA2.1.1.1.2.2.2.2.2.1; omega⟩
      have tq : (q : Int) = -1 ∨ (0 ≤ (q : Int) ∧ (q : Int) ≤ m2 3 - 1) := Or.inr ⟨by omega, by omega⟩
      have e10 : ((1610 : Int) + 72 * (q : Int)).toNat = 1610 + 72 * q := by omega
      have e12 : ((1612 : Int) + 72 * (q : Int)).toNat = 1612 + 72 * q := by omega
      have ea : (if u = 0 then fcF c3 (C3 5) F3 q else if u = 1 then fnF c3 (C3 5) (C3 3) F3 q 0 else if u = 2 then fgF c3 (C3 5) (C3 4) F3 q 0 else if u = 3 then (if inW c3 2 10 q then c3 (489 + 9 * q) else -1) else if u = 4 then (if inW c3 2 10 q then c3 (491 + 9 * q) else -1) else c3 9) = trialV m2 q u := by
        unfold trialV
        have e4 : (m2 4).toNat = N4 := by omega
        have k0 := (hC3.2.2.2.1 q (by omega)).1
        have k1 := (hTK3.2 q (by omega)).1.2.2.1
        have wq : inW c3 2 10 (q : Int) := ⟨by omega, by omega, by omega⟩
        have mr : 0 ≤ manyV m2 N4 q := by
          have := cnt_r (faultB m2 q) N4
          unfold manyV
          (repeat' split) <;> omega
        rw [e4, if_pos wq, if_pos wq, fc_eq hC3 hTK3 hok2 tq m4 d11, e10, e12, k0, k1, d9]
        by_cases z : manyV m2 N4 q = 0
        · have fn := fn_none hC3 hTK3 hok2 tq m4 d11 z
          rw [fn.1, fn.2, if_pos z, if_pos z]
        · have fn := fn_eq hC3 hTK3 hok2 tq (k := 0) m4 d11 ⟨by decide, by omega⟩
          rw [fn.1, fn.2, if_neg z, if_neg z]
      refine ONE.of (z := (trialV m2 q u)) (f4' := f4) (m' := m) (kpm' := kpm) (pool' := pool) (zt' := zt) (ft' := ft) (f18' := f18) (pap' := pap) (rwd' := rwd) (rw' := rw) (Nat.le_of_ble_eq_true rfl) ((kg_trial 16 hK hc hC ha hi hu (h1 := h1) (h2 := h2) (r2 := r2) (n1 := (kk : Int)) ⟨by omega, by omega⟩ (fun _ => R1) (fun _ => r1) (fun _ => R2.deeper (Nat.le_of_ble_eq_true rfl)) (fun _ => hR3) (fun _ => hK3) hc3 hC3r (fun _ => hO3) (N := N3) (fun _ => ⟨dN, N390⟩) (F := F3) (fun _ => ⟨⟨d11, d12, d13⟩, F390, d4⟩)).mono (fun v h' q0 => ?_)) ?_ ?_
      · rw [eq, ea] at q0
        rcases q0 with q0 | q0 | ⟨-, q1, rfl⟩
        · exfalso; omega
        · exfalso; omega
        · refine ⟨q1, trivial, ⟨S, kp, some r2, zr, fr, p, e, o, zs, fs, b, fa, c, C, nm, g, hK3, ⟨hT, s5.kp (Old.of hS3) (fun b hb => Or.inr (s3 b hb)), s6.kp (Old.of hS3) (fun b w e hb => by have := s4 w e; unfold wBlk at hb; unfold rBlk; omega), Or.inr ⟨r2, b3, f3, c3, C3, nm3, g3, rfl, ⟨s1, by have := hS3.2.1; omega⟩, s3, s4, hR3, hc3, hC3r⟩⟩, hro, hpa, hxy.1, by have := hS3.2.1; omega⟩, ⟨hS3.1.trans s7, fun b hb => (hS3.2.2.2 b (by unfold eBlk at hb; unfold rBlk; omega)).trans (s8 b hb)⟩, by have := hS3.2.1; omega, by have := hS3.2.2.1; omega⟩
      · exact ⟨SM.rf, fun _ => ⟨kk, m2, by rw [en]; exact x1, rfl⟩⟩
      · exact hSO.up
    · have wc : ¬ (inW c 2 10 a ∧ (0 ≤ u ∧ u ≤ 5)) := fun z => w ⟨⟨by omega, by omega⟩, z.2⟩
      refine ONE.ask (z := -1) (Nat.le_of_ble_eq_true rfl) hCH hSO.up trivial ((kg_trial 16 hK hc hC ha hi hu (h1 := h) (h2 := h) (r2 := 0) (b2 := 0) (z2 := 0) (f2 := w0) (c2 := w0) (C2 := fun _ => w0) (nm2 := wn0) (g2 := wg0) (b3 := 0) (z3 := 0) (f3 := w0) (c3 := w0) (C3 := fun _ => w0) (nm3 := wn0) (g3 := wg0) (n1 := 0) (N := 0) (F := 0) (by decide) (fun z => absurd z (fun z => wc z.1)) (fun z => absurd z (fun z => wc z.1)) (fun z => absurd z (fun z => wc z.1)) (fun z => absurd z (fun z => wc z.1)) (fun z => absurd z (fun z => wc z.1)) w0_r (fun _ => w0_r) (fun z => absurd z (fun z => wc z.1)) (fun z => absurd z (fun z => wc z.1)) (fun z => absurd z (fun z => wc z.1))).mono (fun v h' q0 => ?_)) ?_
      · rcases q0 with q0 | q0 | q0
        · exact ⟨q0.2.1, q0.2.2⟩
        · exact absurd q0.1 wc
        · exact absurd q0.1.1 wc
      · exact ⟨SM.rf, fun z => absurd ⟨z.1, z.2.1⟩ w⟩
  · by_cases w : (0 ≤ a ∧ a ≤ m 3 - 1) ∧ (0 ≤ u ∧ u ≤ 5)
    · skip
      refine ONE.ask (z := -2) (Nat.le_of_ble_eq_true rfl) hCH hSO.up trivial ((kg_trial 16 hK hc hC ha hi hu (h1 := h) (h2 := h) (r2 := 0) (b2 := 0) (z2 := 0) (f2 := w0) (c2 := w0) (C2 := fun _ => w0) (nm2 := wn0) (g2 := wg0) (b3 := 0) (z3 := 0) (f3 := w0) (c3 := w0) (C3 := fun _ => w0) (nm3 := wn0) (g3 := wg0) (n1 := 0) (N := 0) (F := 0) (by decide) (fun z => absurd z (fun z => wn z.2)) (fun z => absurd z (fun z => wn z.2)) (fun z => absurd z (fun z => wn z.2)) (fun z => absurd z (fun z => wn z.2)) (fun z => absurd z (fun z => wn z.2)) w0_r (fun _ => w0_r) (fun z => absurd z (fun z => wn z.2)) (fun z => absurd z (fun z => wn z.2)) (fun z => absurd z (fun z => wn z.2))).mono (fun v h' q0 => ?_)) ?_
      · rcases q0 with q0 | q0 | q0
        · exfalso; omega
        · exact ⟨q0.2.2.1, q0.2.2.2⟩
        · exact absurd q0.1.2 wn
      · exact ⟨SM.rf, fun z => absurd z.2.2 wn⟩
    · have wc : ¬ (inW c 2 10 a ∧ (0 ≤ u ∧ u ≤ 5)) := fun z => w ⟨⟨by omega, by omega⟩, z.2⟩
      refine ONE.ask (z := -1) (Nat.le_of_ble_eq_true rfl) hCH hSO.up trivial ((kg_trial 16 hK hc hC ha hi hu (h1 := h) (h2 := h) (r2 := 0) (b2 := 0) (z2 := 0) (f2 := w0) (c2 := w0) (C2 := fun _ => w0) (nm2 := wn0) (g2 := wg0) (b3 := 0) (z3 := 0) (f3 := w0) (c3 := w0) (C3 := fun _ => w0) (nm3 := wn0) (g3 := wg0) (n1 := 0) (N := 0) (F := 0) (by decide) (fun z => absurd z (fun z => wc z.1)) (fun z => absurd z (fun z => wc z.1)) (fun z => absurd z (fun z => wc z.1)) (fun z => absurd z (fun z => wc z.1)) (fun z => absurd z (fun z => wc z.1)) w0_r (fun _ => w0_r) (fun z => absurd z (fun z => wc z.1)) (fun z => absurd z (fun z => wc z.1)) (fun z => absurd z (fun z => wc z.1))).mono (fun v h' q0 => ?_)) ?_
      · rcases q0 with q0 | q0 | q0
        · exact ⟨q0.2.1, q0.2.2⟩
        · exact absurd q0.1 wc
        · exact absurd q0.1.1 wc
      · exact ⟨SM.rf, fun z => absurd ⟨z.1, z.2.1⟩ w⟩

section mg_41
set_option maxHeartbeats 4000000 in
set_option maxRecDepth 100000 in
theorem m_faultAt {G : mG} {l : Launch} (d : Nat) {h : mH} {x s : Nat} {f4 f6 f8 f9 f10 f11 f12 f13 f14 f16 f18 : Int} {m kp was pool tape pln pap rwd rw : Nat → Int}(hB : isM h x (mFs x f4 f6 f8 f9 f10 f11 f12 f13 f14 f16 f18 s) m kp was pool tape pln pap rwd rw) (hM : ∀ q, InR (m q)) {N : Nat} (hN : m 4 = (N : Int)) (hcap : N ≤ 120) {t k w : Int} (ht : InR t) (hw : 0 ≤ w ∧ w ≤ 1) (ht2 : t ≤ 9) (h5 : m 5 ≤ 120) (hk0 : 0 ≤ k) (hk : k < manyV m N t) : RUNM G l (d + 1) mX11_faultAt [.ref x, .int (J t), .int (J k), .int (J w)] h (fun v h' => v = some (.int (J (faultAtV m N t k w))) ∧ h' = h) := by
  have hB0 := hB
  dsimp only [mFs] at hB
  refine RUNM.of (by decide +kernel) (Nat.le_of_ble_eq_true rfl) ?_
  have r4 := cnt_r (faultB m t) N
  have kk : k ≤ 121 ∧ (t < 0 → k < m 5) := by
    unfold manyV at hk
    split at hk
    · split at hk <;> (constructor <;> omega)
    · constructor <;> omega
  refine r_iload_n (pc := 0) dX11_faultAt_0 rfl ?_
  refine rj_if_ge (pc := 1) (tgt := 19) dX11_faultAt_1 (by decide) (by first | assumption | exact b01_r | exact bz_r | omega | (constructor <;> omega) | exact hM _ | exact hPo _ | exact hTa _ | exact hRo _) (fun c_1 => ?_) (fun c_1 => ?_)
  · refine r_iload_n (pc := 19) dX11_faultAt_19 rfl ?_
    refine r_istore (pc := 20) dX11_faultAt_20 (Nat.le_of_ble_eq_true rfl) ?_
    dsimp only [lsSt, List.set, mLs, mEnt]
    refine r_aload_n (pc := 22) dX11_faultAt_22 rfl (by first | rfl | exact isRefV_rf _) ?_
    refine rm_getf (pc := 23) dX11_faultAt_23 fX11_11 (by assumption) rfl ?_
    refine r_iload_n (pc := 26) dX11_faultAt_26 rfl ?_
    refine rj_bipush (pc := 27) dX11_faultAt_27 (by decide +kernel) ?_
    refine rj_iconst (pc := 29) dX11_faultAt_29 ?_
    refine r_callS3 (pc := 30) dX11_faultAt_30 qX11_ofTask kX11_58 sX11_ofTask (Nat.le_of_ble_eq_true rfl) (m_ofTask d) (fun v_30 h_30 q_30 => ?_)
    obtain ⟨rfl, rfl⟩ := q_30
    refine rj_iald (pc := 33) (j := (1618 + 72 * t).toNat) dX11_faultAt_33 (by first | exact isM.g0 (by assumption) | exact isM.g3 (by assumption) | exact isM.g4 (by assumption) | exact isM.g8 (by assumption) | exact isM.g7 (by assumption) | exact isM.g6 (by assumption) | exact isM.g5 (by assumption) | exact isM.g1 (by assumption) | exact isM.g2 (by assumption)) (by first | assumption | exact b01_r | exact bz_r | omega | (constructor <;> omega) | exact hM _ | exact hPo _ | exact hTa _ | exact hRo _) (by first | assumption | exact b01_r | exact bz_r | omega | (constructor <;> omega) | exact hM _ | exact hPo _ | exact hTa _ | exact hRo _) (by first | assumption | exact b01_r | exact bz_r | omega | (constructor <;> omega) | exact hM _ | exact hPo _ | exact hTa _ | exact hRo _) (by omega) ?_
    refine rj_if_eq (pc := 34) (tgt := 66) dX11_faultAt_34 (by decide) (by first | assumption | exact b01_r | exact bz_r | omega | (constructor <;> omega) | exact hM _ | exact hPo _ | exact hTa _ | exact hRo _) (fun c_34 => ?_) (fun c_34 => ?_)
    · try simp only [b01_0, bz_0, Classical.not_not] at c_34
      refine rj_iconst (pc := 66) dX11_faultAt_66 ?_
      refine r_istore (pc := 67) dX11_faultAt_67 (Nat.le_of_ble_eq_true rfl) ?_
      dsimp only [lsSt, List.set, mLs, mEnt]
      have em : manyV m N t = cnt (faultB m t) N + 0 := by unfold manyV; rw [if_pos (by omega), if_pos c_34]
      have z := L_faultAt (G := G) (l := l) d (k := k) hB0 hM hN hcap ht hw N 0 k (by omega) (by omega) (by omega) (by show k < cnt (faultB m t) N - 0; omega)
      rw [show faultAtV m N t k w = m (2329 + 3 * (faJ m t N 0 k : Int) + w).toNat by unfold faultAtV; rw [if_pos (by omega), if_pos c_34]]
      exact z
    · try simp only [b01_0, bz_0, Classical.not_not] at c_34
      refine r_iload (pc := 37) dX11_faultAt_37 rfl ?_
      refine rj_if_ne (pc := 39) (tgt := 63) dX11_faultAt_39 (by decide) (by first | assumption | exact b01_r | exact bz_r | omega | (constructor <;> omega) | exact hM _ | exact hPo _ | exact hTa _ | exact hRo _) (fun c_39 => ?_) (fun c_39 => ?_)
      · try simp only [b01_0, bz_0, Classical.not_not] at c_39
        refine rj_iinc (pc := 63) dX11_faultAt_63 (Nat.le_of_ble_eq_true rfl) rfl ?_
        dsimp only [lsSt, List.set, mLs, mEnt]
        refine rj_iconst (pc := 66) dX11_faultAt_66 ?_
        refine r_istore (pc := 67) dX11_faultAt_67 (Nat.le_of_ble_eq_true rfl) ?_
        dsimp only [lsSt, List.set, mLs, mEnt]
        have em : manyV m N t = cnt (faultB m t) N + 1 := by unfold manyV; rw [if_pos (by omega), if_neg c_34]
        have z := L_faultAt (G := G) (l := l) d (k := k) hB0 hM hN hcap ht hw N 0 (k - 1) (by omega) (by omega) (by omega) (by show k - 1 < cnt (faultB m t) N - 0; omega)
        rw [show faultAtV m N t k w = m (2329 + 3 * (faJ m t N 0 (k - 1) : Int) + w).toNat by unfold faultAtV; rw [if_pos (by omega), if_neg c_34, if_neg c_39]]
        exact z
      · try simp only [b01_0, bz_0, Classical.not_not] at c_39
        refine r_iload_n (pc := 42) dX11_faultAt_42 rfl ?_
        refine rj_if_ne (pc := 43) (tgt := 61) dX11_faultAt_43 (by decide) (by first | assumption | exact b01_r | exact bz_r | omega | (constructor <;> omega) | exact hM _ | exact hPo _ | exact hTa _ | exact hRo _) (fun c_43 => ?_) (fun c_43 => ?_)
        · try simp only [b01_0, bz_0, Classical.not_not] at c_43
          refine rj_iconst (pc := 61) dX11_faultAt_61 ?_
          refine r_ireturn (pc := 62) .int dX11_faultAt_62 rfl (by first | rfl | assumption) ?_
          first
          | exact ⟨by unfold faultAtV; rw [if_neg (by omega)], rfl⟩
          | exact ⟨by unfold faultAtV; rw [if_pos (by omega), if_neg c_34, if_pos c_39, if_pos c_43], rfl⟩
          | exact ⟨by unfold faultAtV; rw [if_pos (by omega), if_neg c_34, if_pos c_39, if_neg c_43], rfl⟩
        · try simp only [b01_0, bz_0, Classical.not_not] at c_43
          refine r_aload_n (pc := 46) dX11_faultAt_46 rfl (by first | rfl | exact isRefV_rf _) ?_
          refine rm_getf (pc := 47) dX11_faultAt_47 fX11_11 (by assumption) rfl ?_
          refine r_iload_n (pc := 50) dX11_faultAt_50 rfl ?_
          refine rj_bipush (pc := 51) dX11_faultAt_51 (by decide +kernel) ?_
          refine rj_iconst (pc := 53) dX11_faultAt_53 ?_
          refine r_callS3 (pc := 54) dX11_faultAt_54 qX11_ofTask kX11_58 sX11_ofTask (Nat.le_of_ble_eq_true rfl) (m_ofTask d) (fun v_54 h_54 q_54 => ?_)
          obtain ⟨rfl, rfl⟩ := q_54
          refine rj_iald (pc := 57) (j := (1618 + 72 * t).toNat) dX11_faultAt_57 (by first | exact isM.g0 (by assumption) | exact isM.g3 (by assumption) | exact isM.g4 (by assumption) | exact isM.g8 (by assumption) | exact isM.g7 (by assumption) | exact isM.g6 (by assumption) | exact isM.g5 (by assumption) | exact isM.g1 (by assumption) | exact isM.g2 (by assumption)) (by first | assumption | exact b01_r | exact bz_r | omega | (constructor <;> omega) | exact hM _ | exact hPo _ | exact hTa _ | exact hRo _) (by first | assumption | exact b01_r | exact bz_r | omega | (constructor <;> omega) | exact hM _ | exact hPo _ | exact hTa _ | exact hRo _) (by first | assumption | exact b01_r | exact bz_r | omega | (constructor <;> omega) | exact hM _ | exact hPo _ | exact hTa _ | exact hRo _) (by omega) ?_
          refine r_goto (pc := 58) (tgt := 62) dX11_faultAt_58 (by decide) ?_
          refine r_ireturn (pc := 62) .int dX11_faultAt_62 rfl (by first | rfl | assumption) ?_
          first
          | exact ⟨by unfold faultAtV; rw [if_neg (by omega)], rfl⟩
          | exact ⟨by unfold faultAtV; rw [if_pos (by omega), if_neg c_34, if_pos c_39, if_pos c_43], rfl⟩
          | exact ⟨by unfold faultAtV; rw [if_pos (by omega), if_neg c_34, if_pos c_39, if_neg c_43], rfl⟩
  · refine r_aload_n (pc := 4) dX11_faultAt_4 rfl (by first | rfl | exact isRefV_rf _) ?_
    refine rm_getf (pc := 5) dX11_faultAt_5 fX11_11 (by assumption) rfl ?_
    refine rj_sipush (pc := 8) dX11_faultAt_8 (by decide +kernel) ?_
    refine rj_iconst (pc := 11) dX11_faultAt_11 ?_
    refine r_iload_n (pc := 12) dX11_faultAt_12 rfl ?_
    refine rj_imul (pc := 13) dX11_faultAt_13 ?_
    refine rj_iadd (pc := 14) dX11_faultAt_14 ?_
    refine r_iload_n (pc := 15) dX11_faultAt_15 rfl ?_
    refine rj_iadd (pc := 16) dX11_faultAt_16 ?_
    refine rj_iald (pc := 17) (j := (2688 + 2 * k + w).toNat) dX11_faultAt_17 (by first | exact isM.g0 (by assumption) | exact isM.g3 (by assumption) | exact isM.g4 (by assumption) | exact isM.g8 (by assumption) | exact isM.g7 (by assumption) | exact isM.g6 (by assumption) | exact isM.g5 (by assumption) | exact isM.g1 (by assumption) | exact isM.g2 (by assumption)) (by first | assumption | exact b01_r | exact bz_r | omega | (constructor <;> omega) | exact hM _ | exact hPo _ | exact hTa _ | exact hRo _) (by first | assumption | exact b01_r | exact bz_r | omega | (constructor <;> omega) | exact hM _ | exact hPo _ | exact hTa _ | exact hRo _) (by first | assumption | exact b01_r | exact bz_r | omega | (constructor <;> omega) | exact hM _ | exact hPo _ | exact hTa _ | exact hRo _) (by omega) ?_
    refine r_ireturn (pc := 18) .int dX11_faultAt_18 rfl (by first | rfl | assumption) ?_
    first
    | exact ⟨by unfold faultAtV; rw [if_neg (by omega)], rfl⟩
    | exact ⟨by unfold faultAtV; rw [if_pos (by omega), if_neg c_34, if_pos c_39, if_pos c_43], rfl⟩
    | exact ⟨by unfold faultAtV; rw [if_pos (by omega), if_neg c_34, if_pos c_39, if_neg c_43], rfl⟩
end mg_41

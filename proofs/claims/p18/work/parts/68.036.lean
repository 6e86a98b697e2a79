section mg_72
set_option maxHeartbeats 4000000 in
set_option maxRecDepth 100000 in
theorem m_trialNow {G : mG} {l : Launch} (d : Nat) {h : mH} {x s : Nat} {f4 f6 f8 f9 f10 f11 f12 f13 f14 f16 f18 : Int} {m kp was pool tape pln pap rwd rw : Nat → Int}(hB : isM h x (mFs x f4 f6 f8 f9 f10 f11 f12 f13 f14 f16 f18 s) m kp was pool tape pln pap rwd rw) (hok : mOk m) {t k : Int} (ht : 0 ≤ t ∧ t ≤ 9) (hk : InR k) : RUNM G l (d + 5) mX11_trialNow [.ref x, .int (J t), .int (J k)] h (fun v h' => v = some (.int (J (trialV m t k))) ∧ h' = h) := by
  obtain ⟨hM, k0, k1, k2, k3, k4, k5, k7⟩ := id hok
  have hB0 := hB
  dsimp only [mFs] at hB
  refine RUNM.of (by decide +kernel) (Nat.le_of_ble_eq_true rfl) ?_
  have rm : InR (manyV m (m 4).toNat t) := by have := cnt_r (faultB m t) (m 4).toNat; unfold manyV; rw [if_pos ht.1]; constructor <;> split <;> omega
  have rm0 : 0 ≤ manyV m (m 4).toNat t := by have := cnt_r (faultB m t) (m 4).toNat; unfold manyV; rw [if_pos ht.1]; split <;> omega
  refine r_iload_n (pc := 0) dX11_trialNow_0 rfl ?_
  refine rj_tsw (pc := 1) dX11_trialNow_1 (by first | assumption | exact b01_r | exact bz_r | omega | (constructor <;> omega) | exact hM _ | exact hPo _ | exact hTa _ | exact hRo _) (by decide) (by decide) (by decide) (fun off_1 tgt_1 ho_1 ht_1 => ?_)
  by_cases e_1_0 : k = 0
  · rw [e_1_0] at ho_1
    obtain rfl : off_1 = 35 := ho_1.symm.trans (by decide)
    obtain rfl : tgt_1 = 36 := by omega
    refine r_aload_n (pc := 36) dX11_trialNow_36 rfl (by first | rfl | exact isRefV_rf _) ?_
    refine r_iload_n (pc := 37) dX11_trialNow_37 rfl ?_
    refine r_callV1 (pc := 38) dX11_trialNow_38 qX11_manyFaults kX11_232 vX11_manyFaults (by exact isM.gx (by assumption)) rfl rfl (Nat.le_of_ble_eq_true rfl) ((m_manyFaults 0 hB0 hM (N := (m 4).toNat) (by omega) (by omega) (by constructor <;> omega) (by omega)).deeper (by omega)) (fun v_38 h_38 q_38 => ?_)
    obtain ⟨rfl, rfl⟩ := q_38
    refine r_ireturn (pc := 41) .int dX11_trialNow_41 rfl (by first | rfl | assumption) ?_
    exact ⟨by unfold trialV; simp (config := {decide := true}) only [*, if_true, if_false, ite_true, ite_false], rfl⟩
  by_cases e_1_1 : k = 1
  · rw [e_1_1] at ho_1
    obtain rfl : off_1 = 41 := ho_1.symm.trans (by decide)
    obtain rfl : tgt_1 = 42 := by omega
    refine r_aload_n (pc := 42) dX11_trialNow_42 rfl (by first | rfl | exact isRefV_rf _) ?_
    refine r_iload_n (pc := 43) dX11_trialNow_43 rfl ?_
    refine r_callV1 (pc := 44) dX11_trialNow_44 qX11_manyFaults kX11_232 vX11_manyFaults (by exact isM.gx (by assumption)) rfl rfl (Nat.le_of_ble_eq_true rfl) ((m_manyFaults 0 hB0 hM (N := (m 4).toNat) (by omega) (by omega) (by constructor <;> omega) (by omega)).deeper (by omega)) (fun v_44 h_44 q_44 => ?_)
    obtain ⟨rfl, rfl⟩ := q_44
    refine rj_if_ne (pc := 47) (tgt := 54) dX11_trialNow_47 (by decide) (by first | assumption | exact b01_r | exact bz_r | omega | (constructor <;> omega) | exact hM _ | exact hPo _ | exact hTa _ | exact hRo _) (fun c_47 => ?_) (fun c_47 => ?_)
    · try simp only [b01_0, bz_0, Classical.not_not] at c_47
      refine r_aload_n (pc := 54) dX11_trialNow_54 rfl (by first | rfl | exact isRefV_rf _) ?_
      refine r_iload_n (pc := 55) dX11_trialNow_55 rfl ?_
      refine rj_iconst (pc := 56) dX11_trialNow_56 ?_
      refine rj_iconst (pc := 57) dX11_trialNow_57 ?_
      refine r_callV3 (pc := 58) dX11_trialNow_58 qX11_faultAt kX11_235 vX11_faultAt (by exact isM.gx (by assumption)) rfl rfl (Nat.le_of_ble_eq_true rfl) ((m_faultAt 0 hB0 hM (N := (m 4).toNat) (by omega) (by omega) (by constructor <;> omega) (by decide) (by omega) (by omega) (by decide) (by omega)).deeper (by omega)) (fun v_58 h_58 q_58 => ?_)
      obtain ⟨rfl, rfl⟩ := q_58
      refine r_ireturn (pc := 61) .int dX11_trialNow_61 rfl (by first | rfl | assumption) ?_
      exact ⟨by unfold trialV; simp (config := {decide := true}) only [*, if_true, if_false, ite_true, ite_false], rfl⟩
    · try simp only [b01_0, bz_0, Classical.not_not] at c_47
      refine rj_iconst (pc := 50) dX11_trialNow_50 ?_
      refine r_goto (pc := 51) (tgt := 61) dX11_trialNow_51 (by decide) ?_
      refine r_ireturn (pc := 61) .int dX11_trialNow_61 rfl (by first | rfl | assumption) ?_
      exact ⟨by unfold trialV; simp (config := {decide := true}) only [*, if_true, if_false, ite_true, ite_false], rfl⟩
  by_cases e_1_2 : k = 2
  · rw [e_1_2] at ho_1
    obtain rfl : off_1 = 61 := ho_1.symm.trans (by decide)
    obtain rfl : tgt_1 = 62 := by omega
    refine r_aload_n (pc := 62) dX11_trialNow_62 rfl (by first | rfl | exact isRefV_rf _) ?_
    refine r_iload_n (pc := 63) dX11_trialNow_63 rfl ?_
    refine r_callV1 (pc := 64) dX11_trialNow_64 qX11_manyFaults kX11_232 vX11_manyFaults (by exact isM.gx (by assumption)) rfl rfl (Nat.le_of_ble_eq_true rfl) ((m_manyFaults 0 hB0 hM (N := (m 4).toNat) (by omega) (by omega) (by constructor <;> omega) (by omega)).deeper (by omega)) (fun v_64 h_64 q_64 => ?_)
    obtain ⟨rfl, rfl⟩ := q_64
    refine rj_if_ne (pc := 67) (tgt := 74) dX11_trialNow_67 (by decide) (by first | assumption | exact b01_r | exact bz_r | omega | (constructor <;> omega) | exact hM _ | exact hPo _ | exact hTa _ | exact hRo _) (fun c_67 => ?_) (fun c_67 => ?_)
    · try simp only [b01_0, bz_0, Classical.not_not] at c_67
      refine r_aload_n (pc := 74) dX11_trialNow_74 rfl (by first | rfl | exact isRefV_rf _) ?_
      refine r_iload_n (pc := 75) dX11_trialNow_75 rfl ?_
      refine rj_iconst (pc := 76) dX11_trialNow_76 ?_
      refine rj_iconst (pc := 77) dX11_trialNow_77 ?_
      refine r_callV3 (pc := 78) dX11_trialNow_78 qX11_faultAt kX11_235 vX11_faultAt (by exact isM.gx (by assumption)) rfl rfl (Nat.le_of_ble_eq_true rfl) ((m_faultAt 0 hB0 hM (N := (m 4).toNat) (by omega) (by omega) (by constructor <;> omega) (by decide) (by omega) (by omega) (by decide) (by omega)).deeper (by omega)) (fun v_78 h_78 q_78 => ?_)
      obtain ⟨rfl, rfl⟩ := q_78
      refine r_ireturn (pc := 81) .int dX11_trialNow_81 rfl (by first | rfl | assumption) ?_
      exact ⟨by unfold trialV; simp (config := {decide := true}) only [*, if_true, if_false, ite_true, ite_false], rfl⟩
    · try simp only [b01_0, bz_0, Classical.not_not] at c_67
      refine rj_iconst (pc := 70) dX11_trialNow_70 ?_
      refine r_goto (pc := 71) (tgt := 81) dX11_trialNow_71 (by decide) ?_
      refine r_ireturn (pc := 81) .int dX11_trialNow_81 rfl (by first | rfl | assumption) ?_
      exact ⟨by unfold trialV; simp (config := {decide := true}) only [*, if_true, if_false, ite_true, ite_false], rfl⟩
  by_cases e_1_3 : k = 3
  · rw [e_1_3] at ho_1
    obtain rfl : off_1 = 81 := ho_1.symm.trans (by decide)
    obtain rfl : tgt_1 = 82 := by omega
    refine r_aload_n (pc := 82) dX11_trialNow_82 rfl (by first | rfl | exact isRefV_rf _) ?_
    refine rm_getf (pc := 83) dX11_trialNow_83 fX11_11 (by assumption) rfl ?_
    refine r_iload_n (pc := 86) dX11_trialNow_86 rfl ?_
    refine rj_iconst (pc := 87) dX11_trialNow_87 ?_
    refine rj_iconst (pc := 88) dX11_trialNow_88 ?_
    refine r_callS3 (pc := 89) dX11_trialNow_89 qX11_ofTask kX11_58 sX11_ofTask (Nat.le_of_ble_eq_true rfl) (m_ofTask _) (fun v_89 h_89 q_89 => ?_)
    obtain ⟨rfl, rfl⟩ := q_89
    refine rj_iald (pc := 92) (j := (1610 + 72 * t).toNat) dX11_trialNow_92 (by first | exact isM.g0 (by assumption) | exact isM.g3 (by assumption) | exact isM.g4 (by assumption) | exact isM.g8 (by assumption) | exact isM.g7 (by assumption) | exact isM.g6 (by assumption) | exact isM.g5 (by assumption) | exact isM.g1 (by assumption) | exact isM.g2 (by assumption)) (by first | assumption | exact b01_r | exact bz_r | omega | (constructor <;> omega) | exact hM _ | exact hPo _ | exact hTa _ | exact hRo _) (by first | assumption | exact b01_r | exact bz_r | omega | (constructor <;> omega) | exact hM _ | exact hPo _ | exact hTa _ | exact hRo _) (by first | assumption | exact b01_r | exact bz_r | omega | (constructor <;> omega) | exact hM _ | exact hPo _ | exact hTa _ | exact hRo _) (by omega) ?_
    refine r_ireturn (pc := 93) .int dX11_trialNow_93 rfl (by first | rfl | assumption) ?_
    exact ⟨by unfold trialV; simp (config := {decide := true}) only [*, if_true, if_false, ite_true, ite_false], rfl⟩
  by_cases e_1_4 : k = 4
  · rw [e_1_4] at ho_1
    obtain rfl : off_1 = 93 := ho_1.symm.trans (by decide)
    obtain rfl : tgt_1 = 94 := by omega
    refine r_aload_n (pc := 94) dX11_trialNow_94 rfl (by first | rfl | exact isRefV_rf _) ?_
    refine rm_getf (pc := 95) dX11_trialNow_95 fX11_11 (by assumption) rfl ?_
    refine r_iload_n (pc := 98) dX11_trialNow_98 rfl ?_
    refine rj_iconst (pc := 99) dX11_trialNow_99 ?_
    refine rj_iconst (pc := 100) dX11_trialNow_100 ?_
    refine r_callS3 (pc := 101) dX11_trialNow_101 qX11_ofTask kX11_58 sX11_ofTask (Nat.le_of_ble_eq_true rfl) (m_ofTask _) (fun v_101 h_101 q_101 => ?_)
    obtain ⟨rfl, rfl⟩ := q_101
    refine rj_iald (pc := 104) (j := (1612 + 72 * t).toNat) dX11_trialNow_104 (by first | exact isM.g0 (by assumption) | exact isM.g3 (by assumption) | exact isM.g4 (by assumption) | exact isM.g8 (by assumption) | exact isM.g7 (by assumption) | exact isM.g6 (by assumption) | exact isM.g5 (by assumption) | exact isM.g1 (by assumption) | exact isM.g2 (by assumption)) (by first | assumption | exact b01_r | exact bz_r | omega | (constructor <;> omega) | exact hM _ | exact hPo _ | exact hTa _ | exact hRo _) (by first | assumption | exact b01_r | exact bz_r | omega | (constructor <;> omega) | exact hM _ | exact hPo _ | exact hTa _ | exact hRo _) (by first | assumption | exact b01_r | exact bz_r | omega | (constructor <;> omega) | exact hM _ | exact hPo _ | exact hTa _ | exact hRo _) (by omega) ?_
    refine r_ireturn (pc := 105) .int dX11_trialNow_105 rfl (by first | rfl | assumption) ?_
    exact ⟨by unfold trialV; simp (config := {decide := true}) only [*, if_true, if_false, ite_true, ite_false], rfl⟩
  have eo_1 : off_1 = 105 := by
    rw [← ho_1]
    unfold tswOff
    rw [if_pos (by omega)]
  obtain rfl : tgt_1 = 106 := by omega
  refine r_aload_n (pc := 106) dX11_trialNow_106 rfl (by first | rfl | exact isRefV_rf _) ?_
  refine rm_getf (pc := 107) dX11_trialNow_107 fX11_11 (by assumption) rfl ?_
  refine rj_iconst (pc := 110) dX11_trialNow_110 ?_
  refine rj_iald (pc := 111) (j := 2) dX11_trialNow_111 (by first | exact isM.g0 (by assumption) | exact isM.g3 (by assumption) | exact isM.g4 (by assumption) | exact isM.g8 (by assumption) | exact isM.g7 (by assumption) | exact isM.g6 (by assumption) | exact isM.g5 (by assumption) | exact isM.g1 (by assumption) | exact isM.g2 (by assumption)) (by first | assumption | exact b01_r | exact bz_r | omega | (constructor <;> omega) | exact hM _ | exact hPo _ | exact hTa _ | exact hRo _) (by first | assumption | exact b01_r | exact bz_r | omega | (constructor <;> omega) | exact hM _ | exact hPo _ | exact hTa _ | exact hRo _) (by first | assumption | exact b01_r | exact bz_r | omega | (constructor <;> omega) | exact hM _ | exact hPo _ | exact hTa _ | exact hRo _) (by omega) ?_
  refine r_ireturn (pc := 112) .int dX11_trialNow_112 rfl (by first | rfl | assumption) ?_
  exact ⟨by unfold trialV; simp (config := {decide := true}) only [*, if_true, if_false, ite_true, ite_false], rfl⟩
end mg_72

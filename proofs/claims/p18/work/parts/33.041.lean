section mg_39
set_option maxHeartbeats 4000000 in
set_option maxRecDepth 100000 in
theorem m_told {G : mG} {l : Launch} (d : Nat) {h : mH} {x s : Nat} {f4 f6 f8 f9 f10 f11 f12 f13 f14 f16 f18 : Int} {m kp was pool tape pln pap rwd rw : Nat → Int}(hB : isM h x (mFs x f4 f6 f8 f9 f10 f11 f12 f13 f14 f16 f18 s) m kp was pool tape pln pap rwd rw) (hM : ∀ q, InR (m q)) {N C T : Nat} (hN : m 1 = (N : Int)) (hcap : N ≤ 90) (hC : m 0 = (C : Int)) (hC2 : C ≤ 60) (hT : m 3 = (T : Int)) (hT2 : T ≤ 10) {k : Int} (hk : InR k) : RUNM G l (d + 4) mX11_told [.ref x, .int (J k)] h (fun v h' => v = some (.int (J (toldV m f6 f18 N C T k))) ∧ h' = h) := by
  have hB0 := hB
  dsimp only [mFs] at hB
  refine RUNM.of (by decide +kernel) (Nat.le_of_ble_eq_true rfl) ?_
  refine r_iload_n (pc := 0) dX11_told_0 rfl ?_
  refine rj_tsw (pc := 1) dX11_told_1 (by first | assumption | exact b01_r | exact bz_r | omega | (constructor <;> omega) | exact hM _ | exact hPo _ | exact hTa _ | exact hRo _) (by decide) (by decide) (by decide) (fun off_1 tgt_1 ho_1 ht_1 => ?_)
  by_cases e_1_0 : k = 0
  · rw [e_1_0] at ho_1
    obtain rfl : off_1 = 55 := ho_1.symm.trans (by decide)
    obtain rfl : tgt_1 = 56 := by omega
    refine r_aload_n (pc := 56) dX11_told_56 rfl (by first | rfl | exact isRefV_rf _) ?_
    refine rm_getf (pc := 57) dX11_told_57 fX11_11 (by assumption) rfl ?_
    refine rj_iconst (pc := 60) dX11_told_60 ?_
    refine rj_iald (pc := 61) (j := 0) dX11_told_61 (by first | exact isM.g0 (by assumption) | exact isM.g3 (by assumption) | exact isM.g4 (by assumption) | exact isM.g8 (by assumption) | exact isM.g7 (by assumption) | exact isM.g6 (by assumption) | exact isM.g5 (by assumption) | exact isM.g1 (by assumption) | exact isM.g2 (by assumption)) (by first | assumption | exact b01_r | exact bz_r | omega | (constructor <;> omega) | exact hM _ | exact hPo _ | exact hTa _ | exact hRo _) (by first | assumption | exact b01_r | exact bz_r | omega | (constructor <;> omega) | exact hM _ | exact hPo _ | exact hTa _ | exact hRo _) (by first | assumption | exact b01_r | exact bz_r | omega | (constructor <;> omega) | exact hM _ | exact hPo _ | exact hTa _ | exact hRo _) rfl ?_
    refine r_ireturn (pc := 62) .int dX11_told_62 rfl (by first | rfl | assumption) ?_
    exact ⟨by unfold toldV; rw [if_pos e_1_0], rfl⟩
  by_cases e_1_1 : k = 1
  · rw [e_1_1] at ho_1
    obtain rfl : off_1 = 62 := ho_1.symm.trans (by decide)
    obtain rfl : tgt_1 = 63 := by omega
    refine r_aload_n (pc := 63) dX11_told_63 rfl (by first | rfl | exact isRefV_rf _) ?_
    refine r_callV0 (pc := 64) dX11_told_64 qX11_opened kX11_292 vX11_opened (by exact isM.gx (by assumption)) rfl rfl (Nat.le_of_ble_eq_true rfl) (m_opened d hB0 hM hC hC2) (fun v_64 h_64 q_64 => ?_)
    obtain ⟨rfl, rfl⟩ := q_64
    refine r_ireturn (pc := 67) .int dX11_told_67 rfl (by first | rfl | assumption) ?_
    exact ⟨by unfold toldV; rw [if_neg e_1_0, if_pos e_1_1], rfl⟩
  by_cases e_1_2 : k = 2
  · rw [e_1_2] at ho_1
    obtain rfl : off_1 = 67 := ho_1.symm.trans (by decide)
    obtain rfl : tgt_1 = 68 := by omega
    refine r_aload_n (pc := 68) dX11_told_68 rfl (by first | rfl | exact isRefV_rf _) ?_
    refine rm_getf (pc := 69) dX11_told_69 fX11_11 (by assumption) rfl ?_
    refine rj_iconst (pc := 72) dX11_told_72 ?_
    refine rj_iald (pc := 73) (j := 1) dX11_told_73 (by first | exact isM.g0 (by assumption) | exact isM.g3 (by assumption) | exact isM.g4 (by assumption) | exact isM.g8 (by assumption) | exact isM.g7 (by assumption) | exact isM.g6 (by assumption) | exact isM.g5 (by assumption) | exact isM.g1 (by assumption) | exact isM.g2 (by assumption)) (by first | assumption | exact b01_r | exact bz_r | omega | (constructor <;> omega) | exact hM _ | exact hPo _ | exact hTa _ | exact hRo _) (by first | assumption | exact b01_r | exact bz_r | omega | (constructor <;> omega) | exact hM _ | exact hPo _ | exact hTa _ | exact hRo _) (by first | assumption | exact b01_r | exact bz_r | omega | (constructor <;> omega) | exact hM _ | exact hPo _ | exact hTa _ | exact hRo _) rfl ?_
    refine r_ireturn (pc := 74) .int dX11_told_74 rfl (by first | rfl | assumption) ?_
    exact ⟨by unfold toldV; rw [if_neg e_1_0, if_neg e_1_1, if_pos e_1_2], rfl⟩
  by_cases e_1_3 : k = 3
  · rw [e_1_3] at ho_1
    obtain rfl : off_1 = 74 := ho_1.symm.trans (by decide)
    obtain rfl : tgt_1 = 75 := by omega
    refine r_aload_n (pc := 75) dX11_told_75 rfl (by first | rfl | exact isRefV_rf _) ?_
    refine r_callV0 (pc := 76) dX11_told_76 qX11_held kX11_276 vX11_held (by exact isM.gx (by assumption)) rfl rfl (Nat.le_of_ble_eq_true rfl) (m_held (d + 1) hB0 hM hN hcap) (fun v_76 h_76 q_76 => ?_)
    obtain ⟨rfl, rfl⟩ := q_76
    refine r_ireturn (pc := 79) .int dX11_told_79 rfl (by first | rfl | assumption) ?_
    exact ⟨by unfold toldV; rw [if_neg e_1_0, if_neg e_1_1, if_neg e_1_2, if_pos e_1_3], rfl⟩
  by_cases e_1_4 : k = 4
  · rw [e_1_4] at ho_1
    obtain rfl : off_1 = 79 := ho_1.symm.trans (by decide)
    obtain rfl : tgt_1 = 80 := by omega
    refine r_aload_n (pc := 80) dX11_told_80 rfl (by first | rfl | exact isRefV_rf _) ?_
    refine rm_getf (pc := 81) dX11_told_81 fX11_11 (by assumption) rfl ?_
    refine rj_iconst (pc := 84) dX11_told_84 ?_
    refine rj_iald (pc := 85) (j := 3) dX11_told_85 (by first | exact isM.g0 (by assumption) | exact isM.g3 (by assumption) | exact isM.g4 (by assumption) | exact isM.g8 (by assumption) | exact isM.g7 (by assumption) | exact isM.g6 (by assumption) | exact isM.g5 (by assumption) | exact isM.g1 (by assumption) | exact isM.g2 (by assumption)) (by first | assumption | exact b01_r | exact bz_r | omega | (constructor <;> omega) | exact hM _ | exact hPo _ | exact hTa _ | exact hRo _) (by first | assumption | exact b01_r | exact bz_r | omega | (constructor <;> omega) | exact hM _ | exact hPo _ | exact hTa _ | exact hRo _) (by first | assumption | exact b01_r | exact bz_r | omega | (constructor <;> omega) | exact hM _ | exact hPo _ | exact hTa _ | exact hRo _) rfl ?_
    refine r_ireturn (pc := 86) .int dX11_told_86 rfl (by first | rfl | assumption) ?_
    exact ⟨by unfold toldV; rw [if_neg e_1_0, if_neg e_1_1, if_neg e_1_2, if_neg e_1_3, if_pos e_1_4], rfl⟩
  by_cases e_1_5 : k = 5
  · rw [e_1_5] at ho_1
    obtain rfl : off_1 = 86 := ho_1.symm.trans (by decide)
    obtain rfl : tgt_1 = 87 := by omega
    refine r_aload_n (pc := 87) dX11_told_87 rfl (by first | rfl | exact isRefV_rf _) ?_
    refine r_callV0 (pc := 88) dX11_told_88 qX11_readyOnes kX11_295 vX11_readyOnes (by exact isM.gx (by assumption)) rfl rfl (Nat.le_of_ble_eq_true rfl) (m_readyOnes (d + 1) hB0 hM hT hT2) (fun v_88 h_88 q_88 => ?_)
    obtain ⟨rfl, rfl⟩ := q_88
    refine r_ireturn (pc := 91) .int dX11_told_91 rfl (by first | rfl | assumption) ?_
    exact ⟨by unfold toldV; rw [if_neg e_1_0, if_neg e_1_1, if_neg e_1_2, if_neg e_1_3, if_neg e_1_4, if_pos e_1_5], rfl⟩
  by_cases e_1_6 : k = 6
  · rw [e_1_6] at ho_1
    obtain rfl : off_1 = 91 := ho_1.symm.trans (by decide)
    obtain rfl : tgt_1 = 92 := by omega
    refine r_aload_n (pc := 92) dX11_told_92 rfl (by first | rfl | exact isRefV_rf _) ?_
    refine rm_getf (pc := 93) dX11_told_93 fX11_11 (by assumption) rfl ?_
    refine rj_bipush (pc := 96) dX11_told_96 (by decide +kernel) ?_
    refine rj_iald (pc := 98) (j := 7) dX11_told_98 (by first | exact isM.g0 (by assumption) | exact isM.g3 (by assumption) | exact isM.g4 (by assumption) | exact isM.g8 (by assumption) | exact isM.g7 (by assumption) | exact isM.g6 (by assumption) | exact isM.g5 (by assumption) | exact isM.g1 (by assumption) | exact isM.g2 (by assumption)) (by first | assumption | exact b01_r | exact bz_r | omega | (constructor <;> omega) | exact hM _ | exact hPo _ | exact hTa _ | exact hRo _) (by first | assumption | exact b01_r | exact bz_r | omega | (constructor <;> omega) | exact hM _ | exact hPo _ | exact hTa _ | exact hRo _) (by first | assumption | exact b01_r | exact bz_r | omega | (constructor <;> omega) | exact hM _ | exact hPo _ | exact hTa _ | exact hRo _) rfl ?_
    refine r_ireturn (pc := 99) .int dX11_told_99 rfl (by first | rfl | assumption) ?_
    exact ⟨by unfold toldV; rw [if_neg e_1_0, if_neg e_1_1, if_neg e_1_2, if_neg e_1_3, if_neg e_1_4, if_neg e_1_5, if_pos e_1_6], rfl⟩
  by_cases e_1_7 : k = 7
  · rw [e_1_7] at ho_1
    obtain rfl : off_1 = 99 := ho_1.symm.trans (by decide)
    obtain rfl : tgt_1 = 100 := by omega
    refine r_aload_n (pc := 100) dX11_told_100 rfl (by first | rfl | exact isRefV_rf _) ?_
    refine rm_getf (pc := 101) dX11_told_101 fX11_11 (by assumption) rfl ?_
    refine rj_iconst (pc := 104) dX11_told_104 ?_
    refine rj_iald (pc := 105) (j := 2) dX11_told_105 (by first | exact isM.g0 (by assumption) | exact isM.g3 (by assumption) | exact isM.g4 (by assumption) | exact isM.g8 (by assumption) | exact isM.g7 (by assumption) | exact isM.g6 (by assumption) | exact isM.g5 (by assumption) | exact isM.g1 (by assumption) | exact isM.g2 (by assumption)) (by first | assumption | exact b01_r | exact bz_r | omega | (constructor <;> omega) | exact hM _ | exact hPo _ | exact hTa _ | exact hRo _) (by first | assumption | exact b01_r | exact bz_r | omega | (constructor <;> omega) | exact hM _ | exact hPo _ | exact hTa _ | exact hRo _) (by first | assumption | exact b01_r | exact bz_r | omega | (constructor <;> omega) | exact hM _ | exact hPo _ | exact hTa _ | exact hRo _) rfl ?_
    refine r_ireturn (pc := 106) .int dX11_told_106 rfl (by first | rfl | assumption) ?_
    exact ⟨by unfold toldV; rw [if_neg e_1_0, if_neg e_1_1, if_neg e_1_2, if_neg e_1_3, if_neg e_1_4, if_neg e_1_5, if_neg e_1_6, if_pos e_1_7], rfl⟩
  by_cases e_1_8 : k = 8
  · rw [e_1_8] at ho_1
    obtain rfl : off_1 = 106 := ho_1.symm.trans (by decide)
    obtain rfl : tgt_1 = 107 := by omega
    refine r_aload_n (pc := 107) dX11_told_107 rfl (by first | rfl | exact isRefV_rf _) ?_
    refine rm_getf (pc := 108) dX11_told_108 fX11_61 (by assumption) rfl ?_
    refine r_ireturn (pc := 111) .int dX11_told_111 rfl (by first | rfl | assumption) ?_
    exact ⟨by unfold toldV; rw [if_neg e_1_0, if_neg e_1_1, if_neg e_1_2, if_neg e_1_3, if_neg e_1_4, if_neg e_1_5, if_neg e_1_6, if_neg e_1_7, if_pos e_1_8], rfl⟩
  by_cases e_1_9 : k = 9
  · rw [e_1_9] at ho_1
    obtain rfl : off_1 = 111 := ho_1.symm.trans (by decide)
    obtain rfl : tgt_1 = 112 := by omega
    refine r_aload_n (pc := 112) dX11_told_112 rfl (by first | rfl | exact isRefV_rf _) ?_
    refine rm_getf (pc := 113) dX11_told_113 fX11_298 (by assumption) rfl ?_
    refine r_ireturn (pc := 116) .int dX11_told_116 rfl (by first | rfl | assumption) ?_
    exact ⟨by unfold toldV; rw [if_neg e_1_0, if_neg e_1_1, if_neg e_1_2, if_neg e_1_3, if_neg e_1_4, if_neg e_1_5, if_neg e_1_6, if_neg e_1_7, if_neg e_1_8, if_pos e_1_9], rfl⟩
  have eo_1 : off_1 = 116 := by
    rw [← ho_1]
    unfold tswOff
    rw [if_pos (by omega)]
  obtain rfl : tgt_1 = 117 := by omega
  refine rj_iconst (pc := 117) dX11_told_117 ?_
  refine r_ireturn (pc := 118) .int dX11_told_118 rfl (by first | rfl | assumption) ?_
  exact ⟨by unfold toldV; rw [if_neg e_1_0, if_neg e_1_1, if_neg e_1_2, if_neg e_1_3, if_neg e_1_4, if_neg e_1_5, if_neg e_1_6, if_neg e_1_7, if_neg e_1_8, if_neg e_1_9], rfl⟩
end mg_39

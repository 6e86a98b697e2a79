section mg_72
set_option maxHeartbeats 4000000 in
set_option maxRecDepth 100000 in
theorem m_wouldNow {G : mG} {l : Launch} (d : Nat) {h : mH} {x s : Nat} {f4 f6 f8 f9 f10 f11 f12 f13 f14 f16 f18 : Int} {m kp was pool tape pln pap rwd rw : Nat → Int}(hB : isM h x (mFs x f4 f6 f8 f9 f10 f11 f12 f13 f14 f16 f18 s) m kp was pool tape pln pap rwd rw) (hok : mOk m) {k : Int} (hk : InR k) : RUNM G l (d + 3) mX11_wouldNow [.ref x, .int (J k)] h (fun v h' => v = some (.int (J (wouldV m was k))) ∧ h' = h) := by
  obtain ⟨hM, k0, k1, k2, k3, k4, k5, k7⟩ := id hok
  have hB0 := hB
  dsimp only [mFs] at hB
  refine RUNM.of (by decide +kernel) (Nat.le_of_ble_eq_true rfl) ?_
  have r5 := hM 5
  refine r_iload_n (pc := 0) dX11_wouldNow_0 rfl ?_
  refine rj_tsw (pc := 1) dX11_wouldNow_1 (by first | assumption | exact b01_r | exact bz_r | omega | (constructor <;> omega) | exact hM _ | exact hPo _ | exact hTa _ | exact hRo _) (by decide) (by decide) (by decide) (fun off_1 tgt_1 ho_1 ht_1 => ?_)
  by_cases e_1_0 : k = 0
  · rw [e_1_0] at ho_1
    obtain rfl : off_1 = 35 := ho_1.symm.trans (by decide)
    obtain rfl : tgt_1 = 36 := by omega
    refine r_aload_n (pc := 36) dX11_wouldNow_36 rfl (by first | rfl | exact isRefV_rf _) ?_
    refine rm_getf (pc := 37) dX11_wouldNow_37 fX11_11 (by assumption) rfl ?_
    refine rj_iconst (pc := 40) dX11_wouldNow_40 ?_
    refine rj_iald (pc := 41) (j := 5) dX11_wouldNow_41 (by first | exact isM.g0 (by assumption) | exact isM.g3 (by assumption) | exact isM.g4 (by assumption) | exact isM.g8 (by assumption) | exact isM.g7 (by assumption) | exact isM.g6 (by assumption) | exact isM.g5 (by assumption) | exact isM.g1 (by assumption) | exact isM.g2 (by assumption)) (by first | assumption | exact b01_r | exact bz_r | omega | (constructor <;> omega) | exact hM _ | exact hPo _ | exact hTa _ | exact hRo _) (by first | assumption | exact b01_r | exact bz_r | omega | (constructor <;> omega) | exact hM _ | exact hPo _ | exact hTa _ | exact hRo _) (by first | assumption | exact b01_r | exact bz_r | omega | (constructor <;> omega) | exact hM _ | exact hPo _ | exact hTa _ | exact hRo _) (by omega) ?_
    refine r_ireturn (pc := 42) .int dX11_wouldNow_42 rfl (by first | rfl | assumption) ?_
    exact ⟨by unfold wouldV; simp (config := {decide := true}) only [*, if_true, if_false, ite_true, ite_false], rfl⟩
  by_cases e_1_1 : k = 1
  · rw [e_1_1] at ho_1
    obtain rfl : off_1 = 42 := ho_1.symm.trans (by decide)
    obtain rfl : tgt_1 = 43 := by omega
    refine r_aload_n (pc := 43) dX11_wouldNow_43 rfl (by first | rfl | exact isRefV_rf _) ?_
    refine rm_getf (pc := 44) dX11_wouldNow_44 fX11_11 (by assumption) rfl ?_
    refine rj_iconst (pc := 47) dX11_wouldNow_47 ?_
    refine rj_iald (pc := 48) (j := 5) dX11_wouldNow_48 (by first | exact isM.g0 (by assumption) | exact isM.g3 (by assumption) | exact isM.g4 (by assumption) | exact isM.g8 (by assumption) | exact isM.g7 (by assumption) | exact isM.g6 (by assumption) | exact isM.g5 (by assumption) | exact isM.g1 (by assumption) | exact isM.g2 (by assumption)) (by first | assumption | exact b01_r | exact bz_r | omega | (constructor <;> omega) | exact hM _ | exact hPo _ | exact hTa _ | exact hRo _) (by first | assumption | exact b01_r | exact bz_r | omega | (constructor <;> omega) | exact hM _ | exact hPo _ | exact hTa _ | exact hRo _) (by first | assumption | exact b01_r | exact bz_r | omega | (constructor <;> omega) | exact hM _ | exact hPo _ | exact hTa _ | exact hRo _) (by omega) ?_
    refine rj_if_ne (pc := 49) (tgt := 56) dX11_wouldNow_49 (by decide) (by first | assumption | exact b01_r | exact bz_r | omega | (constructor <;> omega) | exact hM _ | exact hPo _ | exact hTa _ | exact hRo _) (fun c_49 => ?_) (fun c_49 => ?_)
    · try simp only [b01_0, bz_0, Classical.not_not] at c_49
      refine r_aload_n (pc := 56) dX11_wouldNow_56 rfl (by first | rfl | exact isRefV_rf _) ?_
      refine rm_getf (pc := 57) dX11_wouldNow_57 fX11_11 (by assumption) rfl ?_
      refine rj_sipush (pc := 60) dX11_wouldNow_60 (by decide +kernel) ?_
      refine rj_iald (pc := 63) (j := 2688) dX11_wouldNow_63 (by first | exact isM.g0 (by assumption) | exact isM.g3 (by assumption) | exact isM.g4 (by assumption) | exact isM.g8 (by assumption) | exact isM.g7 (by assumption) | exact isM.g6 (by assumption) | exact isM.g5 (by assumption) | exact isM.g1 (by assumption) | exact isM.g2 (by assumption)) (by first | assumption | exact b01_r | exact bz_r | omega | (constructor <;> omega) | exact hM _ | exact hPo _ | exact hTa _ | exact hRo _) (by first | assumption | exact b01_r | exact bz_r | omega | (constructor <;> omega) | exact hM _ | exact hPo _ | exact hTa _ | exact hRo _) (by first | assumption | exact b01_r | exact bz_r | omega | (constructor <;> omega) | exact hM _ | exact hPo _ | exact hTa _ | exact hRo _) (by omega) ?_
      refine r_ireturn (pc := 64) .int dX11_wouldNow_64 rfl (by first | rfl | assumption) ?_
      exact ⟨by unfold wouldV; simp (config := {decide := true}) only [*, if_true, if_false, ite_true, ite_false], rfl⟩
    · try simp only [b01_0, bz_0, Classical.not_not] at c_49
      refine rj_iconst (pc := 52) dX11_wouldNow_52 ?_
      refine r_goto (pc := 53) (tgt := 64) dX11_wouldNow_53 (by decide) ?_
      refine r_ireturn (pc := 64) .int dX11_wouldNow_64 rfl (by first | rfl | assumption) ?_
      exact ⟨by unfold wouldV; simp (config := {decide := true}) only [*, if_true, if_false, ite_true, ite_false], rfl⟩
  by_cases e_1_2 : k = 2
  · rw [e_1_2] at ho_1
    obtain rfl : off_1 = 64 := ho_1.symm.trans (by decide)
    obtain rfl : tgt_1 = 65 := by omega
    refine r_aload_n (pc := 65) dX11_wouldNow_65 rfl (by first | rfl | exact isRefV_rf _) ?_
    refine rm_getf (pc := 66) dX11_wouldNow_66 fX11_11 (by assumption) rfl ?_
    refine rj_iconst (pc := 69) dX11_wouldNow_69 ?_
    refine rj_iald (pc := 70) (j := 5) dX11_wouldNow_70 (by first | exact isM.g0 (by assumption) | exact isM.g3 (by assumption) | exact isM.g4 (by assumption) | exact isM.g8 (by assumption) | exact isM.g7 (by assumption) | exact isM.g6 (by assumption) | exact isM.g5 (by assumption) | exact isM.g1 (by assumption) | exact isM.g2 (by assumption)) (by first | assumption | exact b01_r | exact bz_r | omega | (constructor <;> omega) | exact hM _ | exact hPo _ | exact hTa _ | exact hRo _) (by first | assumption | exact b01_r | exact bz_r | omega | (constructor <;> omega) | exact hM _ | exact hPo _ | exact hTa _ | exact hRo _) (by first | assumption | exact b01_r | exact bz_r | omega | (constructor <;> omega) | exact hM _ | exact hPo _ | exact hTa _ | exact hRo _) (by omega) ?_
    refine rj_if_ne (pc := 71) (tgt := 78) dX11_wouldNow_71 (by decide) (by first | assumption | exact b01_r | exact bz_r | omega | (constructor <;> omega) | exact hM _ | exact hPo _ | exact hTa _ | exact hRo _) (fun c_71 => ?_) (fun c_71 => ?_)
    · try simp only [b01_0, bz_0, Classical.not_not] at c_71
      refine r_aload_n (pc := 78) dX11_wouldNow_78 rfl (by first | rfl | exact isRefV_rf _) ?_
      refine rm_getf (pc := 79) dX11_wouldNow_79 fX11_11 (by assumption) rfl ?_
      refine rj_sipush (pc := 82) dX11_wouldNow_82 (by decide +kernel) ?_
      refine rj_iald (pc := 85) (j := 2689) dX11_wouldNow_85 (by first | exact isM.g0 (by assumption) | exact isM.g3 (by assumption) | exact isM.g4 (by assumption) | exact isM.g8 (by assumption) | exact isM.g7 (by assumption) | exact isM.g6 (by assumption) | exact isM.g5 (by assumption) | exact isM.g1 (by assumption) | exact isM.g2 (by assumption)) (by first | assumption | exact b01_r | exact bz_r | omega | (constructor <;> omega) | exact hM _ | exact hPo _ | exact hTa _ | exact hRo _) (by first | assumption | exact b01_r | exact bz_r | omega | (constructor <;> omega) | exact hM _ | exact hPo _ | exact hTa _ | exact hRo _) (by first | assumption | exact b01_r | exact bz_r | omega | (constructor <;> omega) | exact hM _ | exact hPo _ | exact hTa _ | exact hRo _) (by omega) ?_
      refine r_ireturn (pc := 86) .int dX11_wouldNow_86 rfl (by first | rfl | assumption) ?_
      exact ⟨by unfold wouldV; simp (config := {decide := true}) only [*, if_true, if_false, ite_true, ite_false], rfl⟩
    · try simp only [b01_0, bz_0, Classical.not_not] at c_71
      refine rj_iconst (pc := 74) dX11_wouldNow_74 ?_
      refine r_goto (pc := 75) (tgt := 86) dX11_wouldNow_75 (by decide) ?_
      refine r_ireturn (pc := 86) .int dX11_wouldNow_86 rfl (by first | rfl | assumption) ?_
      exact ⟨by unfold wouldV; simp (config := {decide := true}) only [*, if_true, if_false, ite_true, ite_false], rfl⟩
  by_cases e_1_3 : k = 3
  · rw [e_1_3] at ho_1
    obtain rfl : off_1 = 86 := ho_1.symm.trans (by decide)
    obtain rfl : tgt_1 = 87 := by omega
    refine r_aload_n (pc := 87) dX11_wouldNow_87 rfl (by first | rfl | exact isRefV_rf _) ?_
    refine rm_getf (pc := 88) dX11_wouldNow_88 fX11_11 (by assumption) rfl ?_
    refine rj_iconst (pc := 91) dX11_wouldNow_91 ?_
    refine rj_iald (pc := 92) (j := 2) dX11_wouldNow_92 (by first | exact isM.g0 (by assumption) | exact isM.g3 (by assumption) | exact isM.g4 (by assumption) | exact isM.g8 (by assumption) | exact isM.g7 (by assumption) | exact isM.g6 (by assumption) | exact isM.g5 (by assumption) | exact isM.g1 (by assumption) | exact isM.g2 (by assumption)) (by first | assumption | exact b01_r | exact bz_r | omega | (constructor <;> omega) | exact hM _ | exact hPo _ | exact hTa _ | exact hRo _) (by first | assumption | exact b01_r | exact bz_r | omega | (constructor <;> omega) | exact hM _ | exact hPo _ | exact hTa _ | exact hRo _) (by first | assumption | exact b01_r | exact bz_r | omega | (constructor <;> omega) | exact hM _ | exact hPo _ | exact hTa _ | exact hRo _) (by omega) ?_
    refine r_aload_n (pc := 93) dX11_wouldNow_93 rfl (by first | rfl | exact isRefV_rf _) ?_
    refine rm_getf (pc := 94) dX11_wouldNow_94 fX11_18 (by assumption) rfl ?_
    refine rj_iconst (pc := 97) dX11_wouldNow_97 ?_
    refine rj_iald (pc := 98) (j := 2) dX11_wouldNow_98 (by first | exact isM.g0 (by assumption) | exact isM.g3 (by assumption) | exact isM.g4 (by assumption) | exact isM.g8 (by assumption) | exact isM.g7 (by assumption) | exact isM.g6 (by assumption) | exact isM.g5 (by assumption) | exact isM.g1 (by assumption) | exact isM.g2 (by assumption)) (by first | assumption | exact b01_r | exact bz_r | omega | (constructor <;> omega) | exact hM _ | exact hPo _ | exact hTa _ | exact hRo _) (by first | assumption | exact b01_r | exact bz_r | omega | (constructor <;> omega) | exact hM _ | exact hPo _ | exact hTa _ | exact hRo _) (by first | assumption | exact b01_r | exact bz_r | omega | (constructor <;> omega) | exact hM _ | exact hPo _ | exact hTa _ | exact hRo _) (by omega) ?_
    refine rj_isub (pc := 99) dX11_wouldNow_99 ?_
    refine r_ireturn (pc := 100) .int dX11_wouldNow_100 rfl (by first | rfl | assumption) ?_
    exact ⟨by unfold wouldV; simp (config := {decide := true}) only [*, if_true, if_false, ite_true, ite_false], rfl⟩
  by_cases e_1_4 : k = 4
  · rw [e_1_4] at ho_1
    obtain rfl : off_1 = 100 := ho_1.symm.trans (by decide)
    obtain rfl : tgt_1 = 101 := by omega
    refine r_aload_n (pc := 101) dX11_wouldNow_101 rfl (by first | rfl | exact isRefV_rf _) ?_
    refine rm_getf (pc := 102) dX11_wouldNow_102 fX11_11 (by assumption) rfl ?_
    refine rj_iconst (pc := 105) dX11_wouldNow_105 ?_
    refine rj_iald (pc := 106) (j := 1) dX11_wouldNow_106 (by first | exact isM.g0 (by assumption) | exact isM.g3 (by assumption) | exact isM.g4 (by assumption) | exact isM.g8 (by assumption) | exact isM.g7 (by assumption) | exact isM.g6 (by assumption) | exact isM.g5 (by assumption) | exact isM.g1 (by assumption) | exact isM.g2 (by assumption)) (by first | assumption | exact b01_r | exact bz_r | omega | (constructor <;> omega) | exact hM _ | exact hPo _ | exact hTa _ | exact hRo _) (by first | assumption | exact b01_r | exact bz_r | omega | (constructor <;> omega) | exact hM _ | exact hPo _ | exact hTa _ | exact hRo _) (by first | assumption | exact b01_r | exact bz_r | omega | (constructor <;> omega) | exact hM _ | exact hPo _ | exact hTa _ | exact hRo _) (by omega) ?_
    refine r_aload_n (pc := 107) dX11_wouldNow_107 rfl (by first | rfl | exact isRefV_rf _) ?_
    refine rm_getf (pc := 108) dX11_wouldNow_108 fX11_18 (by assumption) rfl ?_
    refine rj_iconst (pc := 111) dX11_wouldNow_111 ?_
    refine rj_iald (pc := 112) (j := 1) dX11_wouldNow_112 (by first | exact isM.g0 (by assumption) | exact isM.g3 (by assumption) | exact isM.g4 (by assumption) | exact isM.g8 (by assumption) | exact isM.g7 (by assumption) | exact isM.g6 (by assumption) | exact isM.g5 (by assumption) | exact isM.g1 (by assumption) | exact isM.g2 (by assumption)) (by first | assumption | exact b01_r | exact bz_r | omega | (constructor <;> omega) | exact hM _ | exact hPo _ | exact hTa _ | exact hRo _) (by first | assumption | exact b01_r | exact bz_r | omega | (constructor <;> omega) | exact hM _ | exact hPo _ | exact hTa _ | exact hRo _) (by first | assumption | exact b01_r | exact bz_r | omega | (constructor <;> omega) | exact hM _ | exact hPo _ | exact hTa _ | exact hRo _) (by omega) ?_
    refine rj_isub (pc := 113) dX11_wouldNow_113 ?_
    refine r_ireturn (pc := 114) .int dX11_wouldNow_114 rfl (by first | rfl | assumption) ?_
    exact ⟨by unfold wouldV; simp (config := {decide := true}) only [*, if_true, if_false, ite_true, ite_false], rfl⟩
  have eo_1 : off_1 = 114 := by
    rw [← ho_1]
    unfold tswOff
    rw [if_pos (by omega)]
  obtain rfl : tgt_1 = 115 := by omega
  refine r_aload_n (pc := 115) dX11_wouldNow_115 rfl (by first | rfl | exact isRefV_rf _) ?_
  refine r_callV0 (pc := 116) dX11_wouldNow_116 qX11_held kX11_276 vX11_held (by exact isM.gx (by assumption)) rfl rfl (Nat.le_of_ble_eq_true rfl) (m_held d hB0 hM (N := (m 1).toNat) (by omega) (by omega)) (fun v_116 h_116 q_116 => ?_)
  obtain ⟨rfl, rfl⟩ := q_116
  refine r_ireturn (pc := 119) .int dX11_wouldNow_119 rfl (by first | rfl | assumption) ?_
  exact ⟨by unfold wouldV; simp (config := {decide := true}) only [*, if_true, if_false, ite_true, ite_false], rfl⟩
end mg_72

section mg_30
set_option maxHeartbeats 4000000 in
set_option maxRecDepth 100000 in
theorem m_gathers {G : mG} {l : Launch} (d : Nat) {h : mH} {x s : Nat} {f4 f6 f8 f9 f10 f11 f12 f13 f14 f16 f18 : Int} {m kp was pool tape pln pap rwd rw : Nat → Int}(hB : isM h x (mFs x f4 f6 f8 f9 f10 f11 f12 f13 f14 f16 f18 s) m kp was pool tape pln pap rwd rw) {f t : Int} (hs : InR f14) (h5 : 0 ≤ m 5) (h5b : m 5 ≤ 119) (h4 : 0 ≤ m 4) (h4b : m 4 ≤ 119) : RUNM G l (d) mX11_gathers [.ref x, .int (J f), .int (J t)] h (fun v h' => v = none ∧ isM h' x (mFs x f4 f6 f8 f9 f10 f11 f12 f13 f14 f16 f18 s) (gathersM m f14 f t) kp was pool tape pln pap rwd rw ∧ Same (mBlk x) h h') := by
  dsimp only [mFs] at hB
  refine RUNM.of (by decide +kernel) (Nat.le_of_ble_eq_true rfl) ?_
  refine r_aload_n (pc := 0) dX11_gathers_0 rfl (by first | rfl | exact isRefV_rf _) ?_
  refine rm_getf (pc := 1) dX11_gathers_1 fX11_133 (by assumption) rfl ?_
  refine rj_if_ge (pc := 4) (tgt := 56) dX11_gathers_4 (by decide) (by first | assumption | exact b01_r | exact bz_r | omega | (constructor <;> omega) | exact hM _ | exact hPo _ | exact hTa _ | exact hRo _) (fun c_4 => ?_) (fun c_4 => ?_)
  · refine rj_sipush (pc := 56) dX11_gathers_56 (by decide +kernel) ?_
    refine rj_iconst (pc := 59) dX11_gathers_59 ?_
    refine r_aload_n (pc := 60) dX11_gathers_60 rfl (by first | rfl | exact isRefV_rf _) ?_
    refine rm_getf (pc := 61) dX11_gathers_61 fX11_11 (by assumption) rfl ?_
    refine rj_iconst (pc := 64) dX11_gathers_64 ?_
    refine rj_iald (pc := 65) (j := 4) dX11_gathers_65 (by first | exact isM.g0 (by assumption) | exact isM.g3 (by assumption) | exact isM.g4 (by assumption) | exact isM.g8 (by assumption) | exact isM.g7 (by assumption) | exact isM.g6 (by assumption) | exact isM.g5 (by assumption) | exact isM.g1 (by assumption) | exact isM.g2 (by assumption)) (by first | assumption | exact b01_r | exact bz_r | omega | (constructor <;> omega) | exact hM _ | exact hPo _ | exact hTa _ | exact hRo _) (by first | assumption | exact b01_r | exact bz_r | omega | (constructor <;> omega) | exact hM _ | exact hPo _ | exact hTa _ | exact hRo _) (by first | assumption | exact b01_r | exact bz_r | omega | (constructor <;> omega) | exact hM _ | exact hPo _ | exact hTa _ | exact hRo _) rfl ?_
    refine rj_imul (pc := 66) dX11_gathers_66 ?_
    refine rj_iadd (pc := 67) dX11_gathers_67 ?_
    refine r_istore_n (pc := 68) dX11_gathers_68 (Nat.le_of_ble_eq_true rfl) ?_
    dsimp only [lsSt, List.set, mLs, mEnt]
    refine r_aload_n (pc := 69) dX11_gathers_69 rfl (by first | rfl | exact isRefV_rf _) ?_
    refine rm_getf (pc := 70) dX11_gathers_70 fX11_11 (by assumption) rfl ?_
    refine r_iload_n (pc := 73) dX11_gathers_73 rfl ?_
    refine r_aload_n (pc := 74) dX11_gathers_74 rfl (by first | rfl | exact isRefV_rf _) ?_
    refine rm_getf (pc := 75) dX11_gathers_75 fX11_133 (by assumption) rfl ?_
    first | refine rm_iast0 (pc := 78) (j := (2328 + 3 * m 4).toNat) dX11_gathers_78 (by assumption) (by first | assumption | exact b01_r | exact bz_r | omega | (constructor <;> omega) | exact hM _ | exact hPo _ | exact hTa _ | exact hRo _) (by first | assumption | exact b01_r | exact bz_r | omega | (constructor <;> omega) | exact hM _ | exact hPo _ | exact hTa _ | exact hRo _) (by first | assumption | exact b01_r | exact bz_r | omega | (constructor <;> omega) | exact hM _ | exact hPo _ | exact hTa _ | exact hRo _) (by omega) (fun h_78 hB_78 hS_78 => ?_)
    refine r_aload_n (pc := 79) dX11_gathers_79 rfl (by first | rfl | exact isRefV_rf _) ?_
    refine rm_getf (pc := 80) dX11_gathers_80 fX11_11 (by assumption) rfl ?_
    refine r_iload_n (pc := 83) dX11_gathers_83 rfl ?_
    refine rj_iconst (pc := 84) dX11_gathers_84 ?_
    refine rj_iadd (pc := 85) dX11_gathers_85 ?_
    refine r_iload_n (pc := 86) dX11_gathers_86 rfl ?_
    first | refine rm_iast0 (pc := 87) (j := (2329 + 3 * m 4).toNat) dX11_gathers_87 (by assumption) (by first | assumption | exact b01_r | exact bz_r | omega | (constructor <;> omega) | exact hM _ | exact hPo _ | exact hTa _ | exact hRo _) (by first | assumption | exact b01_r | exact bz_r | omega | (constructor <;> omega) | exact hM _ | exact hPo _ | exact hTa _ | exact hRo _) (by first | assumption | exact b01_r | exact bz_r | omega | (constructor <;> omega) | exact hM _ | exact hPo _ | exact hTa _ | exact hRo _) (by omega) (fun h_87 hB_87 hS_87 => ?_)
    refine r_aload_n (pc := 88) dX11_gathers_88 rfl (by first | rfl | exact isRefV_rf _) ?_
    refine rm_getf (pc := 89) dX11_gathers_89 fX11_11 (by assumption) rfl ?_
    refine r_iload_n (pc := 92) dX11_gathers_92 rfl ?_
    refine rj_iconst (pc := 93) dX11_gathers_93 ?_
    refine rj_iadd (pc := 94) dX11_gathers_94 ?_
    refine r_iload_n (pc := 95) dX11_gathers_95 rfl ?_
    first | refine rm_iast0 (pc := 96) (j := (2330 + 3 * m 4).toNat) dX11_gathers_96 (by assumption) (by first | assumption | exact b01_r | exact bz_r | omega | (constructor <;> omega) | exact hM _ | exact hPo _ | exact hTa _ | exact hRo _) (by first | assumption | exact b01_r | exact bz_r | omega | (constructor <;> omega) | exact hM _ | exact hPo _ | exact hTa _ | exact hRo _) (by first | assumption | exact b01_r | exact bz_r | omega | (constructor <;> omega) | exact hM _ | exact hPo _ | exact hTa _ | exact hRo _) (by omega) (fun h_96 hB_96 hS_96 => ?_)
    refine r_aload_n (pc := 97) dX11_gathers_97 rfl (by first | rfl | exact isRefV_rf _) ?_
    refine rm_getf (pc := 98) dX11_gathers_98 fX11_11 (by assumption) rfl ?_
    refine rj_iconst (pc := 101) dX11_gathers_101 ?_
    refine r_dup2 (pc := 102) dX11_gathers_102 rfl rfl ?_
    refine rj_iald (pc := 103) (j := 4) dX11_gathers_103 (by first | exact isM.g0 (by assumption) | exact isM.g3 (by assumption) | exact isM.g4 (by assumption) | exact isM.g8 (by assumption) | exact isM.g7 (by assumption) | exact isM.g6 (by assumption) | exact isM.g5 (by assumption) | exact isM.g1 (by assumption) | exact isM.g2 (by assumption)) (by first | assumption | exact b01_r | exact bz_r | omega | (constructor <;> omega) | exact hM _ | exact hPo _ | exact hTa _ | exact hRo _) (by first | assumption | exact b01_r | exact bz_r | omega | (constructor <;> omega) | exact hM _ | exact hPo _ | exact hTa _ | exact hRo _) (by first | assumption | exact b01_r | exact bz_r | omega | (constructor <;> omega) | exact hM _ | exact hPo _ | exact hTa _ | exact hRo _) rfl ?_
    rw [updI_n (by omega), updI_n (by omega), updI_n (by omega)]
    refine rj_iconst (pc := 104) dX11_gathers_104 ?_
    refine rj_iadd (pc := 105) dX11_gathers_105 ?_
    first | refine rm_iast0 (pc := 106) (j := 4) dX11_gathers_106 (by assumption) (by first | assumption | exact b01_r | exact bz_r | omega | (constructor <;> omega) | exact hM _ | exact hPo _ | exact hTa _ | exact hRo _) (by first | assumption | exact b01_r | exact bz_r | omega | (constructor <;> omega) | exact hM _ | exact hPo _ | exact hTa _ | exact hRo _) (by first | assumption | exact b01_r | exact bz_r | omega | (constructor <;> omega) | exact hM _ | exact hPo _ | exact hTa _ | exact hRo _) (by omega) (fun h_106 hB_106 hS_106 => ?_)
    refine r_return (pc := 107) dX11_gathers_107 rfl ?_
    exact ⟨rfl, by unfold gathersM; rw [if_neg (by omega)]; exact hB_106, ((hS_78.trans hS_87).trans hS_96).trans hS_106⟩
  · refine r_aload_n (pc := 7) dX11_gathers_7 rfl (by first | rfl | exact isRefV_rf _) ?_
    refine rm_getf (pc := 8) dX11_gathers_8 fX11_11 (by assumption) rfl ?_
    refine rj_sipush (pc := 11) dX11_gathers_11 (by decide +kernel) ?_
    refine rj_iconst (pc := 14) dX11_gathers_14 ?_
    refine r_aload_n (pc := 15) dX11_gathers_15 rfl (by first | rfl | exact isRefV_rf _) ?_
    refine rm_getf (pc := 16) dX11_gathers_16 fX11_11 (by assumption) rfl ?_
    refine rj_iconst (pc := 19) dX11_gathers_19 ?_
    refine rj_iald (pc := 20) (j := 5) dX11_gathers_20 (by first | exact isM.g0 (by assumption) | exact isM.g3 (by assumption) | exact isM.g4 (by assumption) | exact isM.g8 (by assumption) | exact isM.g7 (by assumption) | exact isM.g6 (by assumption) | exact isM.g5 (by assumption) | exact isM.g1 (by assumption) | exact isM.g2 (by assumption)) (by first | assumption | exact b01_r | exact bz_r | omega | (constructor <;> omega) | exact hM _ | exact hPo _ | exact hTa _ | exact hRo _) (by first | assumption | exact b01_r | exact bz_r | omega | (constructor <;> omega) | exact hM _ | exact hPo _ | exact hTa _ | exact hRo _) (by first | assumption | exact b01_r | exact bz_r | omega | (constructor <;> omega) | exact hM _ | exact hPo _ | exact hTa _ | exact hRo _) rfl ?_
    refine rj_imul (pc := 21) dX11_gathers_21 ?_
    refine rj_iadd (pc := 22) dX11_gathers_22 ?_
    refine r_iload_n (pc := 23) dX11_gathers_23 rfl ?_
    first | refine rm_iast0 (pc := 24) (j := (2688 + 2 * m 5).toNat) dX11_gathers_24 (by assumption) (by first | assumption | exact b01_r | exact bz_r | omega | (constructor <;> omega) | exact hM _ | exact hPo _ | exact hTa _ | exact hRo _) (by first | assumption | exact b01_r | exact bz_r | omega | (constructor <;> omega) | exact hM _ | exact hPo _ | exact hTa _ | exact hRo _) (by first | assumption | exact b01_r | exact bz_r | omega | (constructor <;> omega) | exact hM _ | exact hPo _ | exact hTa _ | exact hRo _) (by omega) (fun h_24 hB_24 hS_24 => ?_)
    refine r_aload_n (pc := 25) dX11_gathers_25 rfl (by first | rfl | exact isRefV_rf _) ?_
    refine rm_getf (pc := 26) dX11_gathers_26 fX11_11 (by assumption) rfl ?_
    refine rj_sipush (pc := 29) dX11_gathers_29 (by decide +kernel) ?_
    refine rj_iconst (pc := 32) dX11_gathers_32 ?_
    refine r_aload_n (pc := 33) dX11_gathers_33 rfl (by first | rfl | exact isRefV_rf _) ?_
    refine rm_getf (pc := 34) dX11_gathers_34 fX11_11 (by assumption) rfl ?_
    refine rj_iconst (pc := 37) dX11_gathers_37 ?_
    refine rj_iald (pc := 38) (j := 5) dX11_gathers_38 (by first | exact isM.g0 (by assumption) | exact isM.g3 (by assumption) | exact isM.g4 (by assumption) | exact isM.g8 (by assumption) | exact isM.g7 (by assumption) | exact isM.g6 (by assumption) | exact isM.g5 (by assumption) | exact isM.g1 (by assumption) | exact isM.g2 (by assumption)) (by first | assumption | exact b01_r | exact bz_r | omega | (constructor <;> omega) | exact hM _ | exact hPo _ | exact hTa _ | exact hRo _) (by first | assumption | exact b01_r | exact bz_r | omega | (constructor <;> omega) | exact hM _ | exact hPo _ | exact hTa _ | exact hRo _) (by first | assumption | exact b01_r | exact bz_r | omega | (constructor <;> omega) | exact hM _ | exact hPo _ | exact hTa _ | exact hRo _) rfl ?_
    refine rj_imul (pc := 39) dX11_gathers_39 ?_
    refine rj_iadd (pc := 40) dX11_gathers_40 ?_
    rw [updI_n (by omega)]
    refine rj_iconst (pc := 41) dX11_gathers_41 ?_
    refine rj_iadd (pc := 42) dX11_gathers_42 ?_
    refine r_iload_n (pc := 43) dX11_gathers_43 rfl ?_
    first | refine rm_iast0 (pc := 44) (j := (2689 + 2 * m 5).toNat) dX11_gathers_44 (by assumption) (by first | assumption | exact b01_r | exact bz_r | omega | (constructor <;> omega) | exact hM _ | exact hPo _ | exact hTa _ | exact hRo _) (by first | assumption | exact b01_r | exact bz_r | omega | (constructor <;> omega) | exact hM _ | exact hPo _ | exact hTa _ | exact hRo _) (by first | assumption | exact b01_r | exact bz_r | omega | (constructor <;> omega) | exact hM _ | exact hPo _ | exact hTa _ | exact hRo _) (by omega) (fun h_44 hB_44 hS_44 => ?_)
    refine r_aload_n (pc := 45) dX11_gathers_45 rfl (by first | rfl | exact isRefV_rf _) ?_
    refine rm_getf (pc := 46) dX11_gathers_46 fX11_11 (by assumption) rfl ?_
    refine rj_iconst (pc := 49) dX11_gathers_49 ?_
    refine r_dup2 (pc := 50) dX11_gathers_50 rfl rfl ?_
    refine rj_iald (pc := 51) (j := 5) dX11_gathers_51 (by first | exact isM.g0 (by assumption) | exact isM.g3 (by assumption) | exact isM.g4 (by assumption) | exact isM.g8 (by assumption) | exact isM.g7 (by assumption) | exact isM.g6 (by assumption) | exact isM.g5 (by assumption) | exact isM.g1 (by assumption) | exact isM.g2 (by assumption)) (by first | assumption | exact b01_r | exact bz_r | omega | (constructor <;> omega) | exact hM _ | exact hPo _ | exact hTa _ | exact hRo _) (by first | assumption | exact b01_r | exact bz_r | omega | (constructor <;> omega) | exact hM _ | exact hPo _ | exact hTa _ | exact hRo _) (by first | assumption | exact b01_r | exact bz_r | omega | (constructor <;> omega) | exact hM _ | exact hPo _ | exact hTa _ | exact hRo _) rfl ?_
    rw [updI_n (by omega), updI_n (by omega)]
    refine rj_iconst (pc := 52) dX11_gathers_52 ?_
    refine rj_iadd (pc := 53) dX11_gathers_53 ?_
    first | refine rm_iast0 (pc := 54) (j := 5) dX11_gathers_54 (by assumption) (by first | assumption | exact b01_r | exact bz_r | omega | (constructor <;> omega) | exact hM _ | exact hPo _ | exact hTa _ | exact hRo _) (by first | assumption | exact b01_r | exact bz_r | omega | (constructor <;> omega) | exact hM _ | exact hPo _ | exact hTa _ | exact hRo _) (by first | assumption | exact b01_r | exact bz_r | omega | (constructor <;> omega) | exact hM _ | exact hPo _ | exact hTa _ | exact hRo _) (by omega) (fun h_54 hB_54 hS_54 => ?_)
    refine r_return (pc := 55) dX11_gathers_55 rfl ?_
    exact ⟨rfl, by unfold gathersM; rw [if_pos (by omega)]; exact hB_54, (hS_24.trans hS_44).trans hS_54⟩
end mg_30

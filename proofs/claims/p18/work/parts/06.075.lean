section mg_30
set_option maxHeartbeats 4000000 in
set_option maxRecDepth 100000 in
theorem m_takes {G : mG} {l : Launch} (d : Nat) {h : mH} {x s : Nat} {f4 f6 f8 f9 f10 f11 f12 f13 f14 f16 f18 : Int} {m kp was pool tape pln pap rwd rw : Nat → Int}(hB : isM h x (mFs x f4 f6 f8 f9 f10 f11 f12 f13 f14 f16 f18 s) m kp was pool tape pln pap rwd rw) {rs : Nat} {rc : Nat → Int} {fr to : Nat} (hR : rowOk rs rc pool tape to) (hft : fr ≤ to) (h7 : to - fr ≤ 7) {N : Nat} (hN : m 1 = (N : Int)) (hcap : N ≤ 89) {o p e : Int} : RUNM G l (d + 2) mX11_takes [.ref x, .int (J o), .ref (mAd x rs), .int (J (fr : Int)), .int (J (to : Int)), .int (J p), .int (J e)] h (fun v h' => v = some (.int (J (N : Int))) ∧ isM h' x (mFs x f4 f6 f8 f9 f10 f11 f12 f13 f14 f16 f18 s) (takesM m rc N o fr to p e) kp was pool tape pln pap rwd rw ∧ Same (mBlk x) h h') := by
  dsimp only [mFs] at hB
  refine RUNM.of (by decide +kernel) (Nat.le_of_ble_eq_true rfl) ?_
  have r1 : InR (m 1) := ⟨by omega, by omega⟩
  refine r_aload_n (pc := 0) dX11_takes_0 rfl (by first | rfl | exact isRefV_rf _) ?_
  refine rm_getf (pc := 1) dX11_takes_1 fX11_11 (by assumption) rfl ?_
  refine rj_iconst (pc := 4) dX11_takes_4 ?_
  refine rj_iald (pc := 5) (j := 1) dX11_takes_5 (by first | exact isM.g0 (by assumption) | exact isM.g3 (by assumption) | exact isM.g4 (by assumption) | exact isM.g8 (by assumption) | exact isM.g7 (by assumption) | exact isM.g6 (by assumption) | exact isM.g5 (by assumption) | exact isM.g1 (by assumption) | exact isM.g2 (by assumption)) (by first | assumption | exact b01_r | exact bz_r | omega | (constructor <;> omega) | exact hM _ | exact hPo _ | exact hTa _ | exact hRo _) (by first | assumption | exact b01_r | exact bz_r | omega | (constructor <;> omega) | exact hM _ | exact hPo _ | exact hTa _ | exact hRo _) (by first | assumption | exact b01_r | exact bz_r | omega | (constructor <;> omega) | exact hM _ | exact hPo _ | exact hTa _ | exact hRo _) rfl ?_
  rw [hN]
  refine r_istore (pc := 6) dX11_takes_6 (Nat.le_of_ble_eq_true rfl) ?_
  dsimp only [lsSt, List.set, mLs, mEnt]
  refine r_aload_n (pc := 8) dX11_takes_8 rfl (by first | rfl | exact isRefV_rf _) ?_
  refine rm_getf (pc := 9) dX11_takes_9 fX11_11 (by assumption) rfl ?_
  refine rj_iconst (pc := 12) dX11_takes_12 ?_
  refine r_dup2 (pc := 13) dX11_takes_13 rfl rfl ?_
  refine rj_iald (pc := 14) (j := 1) dX11_takes_14 (by first | exact isM.g0 (by assumption) | exact isM.g3 (by assumption) | exact isM.g4 (by assumption) | exact isM.g8 (by assumption) | exact isM.g7 (by assumption) | exact isM.g6 (by assumption) | exact isM.g5 (by assumption) | exact isM.g1 (by assumption) | exact isM.g2 (by assumption)) (by first | assumption | exact b01_r | exact bz_r | omega | (constructor <;> omega) | exact hM _ | exact hPo _ | exact hTa _ | exact hRo _) (by first | assumption | exact b01_r | exact bz_r | omega | (constructor <;> omega) | exact hM _ | exact hPo _ | exact hTa _ | exact hRo _) (by first | assumption | exact b01_r | exact bz_r | omega | (constructor <;> omega) | exact hM _ | exact hPo _ | exact hTa _ | exact hRo _) rfl ?_
  refine rj_iconst (pc := 15) dX11_takes_15 ?_
  refine rj_iadd (pc := 16) dX11_takes_16 ?_
  rw [hN]
  first | refine rm_iast0 (pc := 17) (j := 1) dX11_takes_17 (by assumption) (by first | assumption | exact b01_r | exact bz_r | omega | (constructor <;> omega) | exact hM _ | exact hPo _ | exact hTa _ | exact hRo _) (by first | assumption | exact b01_r | exact bz_r | omega | (constructor <;> omega) | exact hM _ | exact hPo _ | exact hTa _ | exact hRo _) (by first | assumption | exact b01_r | exact bz_r | omega | (constructor <;> omega) | exact hM _ | exact hPo _ | exact hTa _ | exact hRo _) (by omega) (fun h_17 hB_17 hS_17 => ?_)
  refine r_aload_n (pc := 18) dX11_takes_18 rfl (by first | rfl | exact isRefV_rf _) ?_
  refine rm_getf (pc := 19) dX11_takes_19 fX11_11 (by assumption) rfl ?_
  refine r_iload (pc := 22) dX11_takes_22 rfl ?_
  refine rj_iconst (pc := 24) dX11_takes_24 ?_
  refine rj_iconst (pc := 25) dX11_takes_25 ?_
  refine r_callS3 (pc := 26) dX11_takes_26 qX11_ofThing kX11_54 sX11_ofThing (Nat.le_of_ble_eq_true rfl) (m_ofThing (d + 1)) (fun v_26 h_26 q_26 => ?_)
  obtain ⟨rfl, rfl⟩ := q_26
  refine rj_iconst (pc := 29) dX11_takes_29 ?_
  first | refine rm_iast0 (pc := 30) (j := 258 + 14 * N) dX11_takes_30 (by assumption) (by first | assumption | exact b01_r | exact bz_r | omega | (constructor <;> omega) | exact hM _ | exact hPo _ | exact hTa _ | exact hRo _) (by first | assumption | exact b01_r | exact bz_r | omega | (constructor <;> omega) | exact hM _ | exact hPo _ | exact hTa _ | exact hRo _) (by first | assumption | exact b01_r | exact bz_r | omega | (constructor <;> omega) | exact hM _ | exact hPo _ | exact hTa _ | exact hRo _) (by omega) (fun h_30 hB_30 hS_30 => ?_)
  refine r_aload_n (pc := 31) dX11_takes_31 rfl (by first | rfl | exact isRefV_rf _) ?_
  refine rm_getf (pc := 32) dX11_takes_32 fX11_11 (by assumption) rfl ?_
  refine r_iload (pc := 35) dX11_takes_35 rfl ?_
  refine rj_iconst (pc := 37) dX11_takes_37 ?_
  refine rj_iconst (pc := 38) dX11_takes_38 ?_
  refine r_callS3 (pc := 39) dX11_takes_39 qX11_ofThing kX11_54 sX11_ofThing (Nat.le_of_ble_eq_true rfl) (m_ofThing (d + 1)) (fun v_39 h_39 q_39 => ?_)
  obtain ⟨rfl, rfl⟩ := q_39
  refine r_iload_n (pc := 42) dX11_takes_42 rfl ?_
  first | refine rm_iast0 (pc := 43) (j := 259 + 14 * N) dX11_takes_43 (by assumption) (by first | assumption | exact b01_r | exact bz_r | omega | (constructor <;> omega) | exact hM _ | exact hPo _ | exact hTa _ | exact hRo _) (by first | assumption | exact b01_r | exact bz_r | omega | (constructor <;> omega) | exact hM _ | exact hPo _ | exact hTa _ | exact hRo _) (by first | assumption | exact b01_r | exact bz_r | omega | (constructor <;> omega) | exact hM _ | exact hPo _ | exact hTa _ | exact hRo _) (by omega) (fun h_43 hB_43 hS_43 => ?_)
  refine r_aload_n (pc := 44) dX11_takes_44 rfl (by first | rfl | exact isRefV_rf _) ?_
  refine rm_getf (pc := 45) dX11_takes_45 fX11_11 (by assumption) rfl ?_
  refine r_iload (pc := 48) dX11_takes_48 rfl ?_
  refine rj_iconst (pc := 50) dX11_takes_50 ?_
  refine rj_iconst (pc := 51) dX11_takes_51 ?_
  refine r_callS3 (pc := 52) dX11_takes_52 qX11_ofThing kX11_54 sX11_ofThing (Nat.le_of_ble_eq_true rfl) (m_ofThing (d + 1)) (fun v_52 h_52 q_52 => ?_)
  obtain ⟨rfl, rfl⟩ := q_52
  refine r_aload_n (pc := 55) dX11_takes_55 rfl (by first | rfl | exact isRefV_rf _) ?_
  refine r_callV0 (pc := 56) dX11_takes_56 qX11_stamp kX11_126 vX11_stamp (by exact isM.gx (by assumption)) rfl rfl (Nat.le_of_ble_eq_true rfl) (m_stamp (d + 1) hB_43) (fun v_56 h_56 q_56 => ?_)
  obtain ⟨rfl, hB_56, hS_56⟩ := q_56
  rw [updI_n (by omega), updI_n (by omega), updI_n (by omega)] at hB_56 ⊢
  first | refine rm_iast0 (pc := 59) (j := 260 + 14 * N) dX11_takes_59 (by assumption) (by first | assumption | exact b01_r | exact bz_r | omega | (constructor <;> omega) | exact hM _ | exact hPo _ | exact hTa _ | exact hRo _) (by first | assumption | exact b01_r | exact bz_r | omega | (constructor <;> omega) | exact hM _ | exact hPo _ | exact hTa _ | exact hRo _) (by first | assumption | exact b01_r | exact bz_r | omega | (constructor <;> omega) | exact hM _ | exact hPo _ | exact hTa _ | exact hRo _) (by omega) (fun h_59 hB_59 hS_59 => ?_)
  refine r_aload_n (pc := 60) dX11_takes_60 rfl (by first | rfl | exact isRefV_rf _) ?_
  refine r_iload (pc := 61) dX11_takes_61 rfl ?_
  refine r_aload_n (pc := 63) dX11_takes_63 rfl (by first | rfl | exact isRefV_rf _) ?_
  refine r_iload_n (pc := 64) dX11_takes_64 rfl ?_
  refine r_iload (pc := 65) dX11_takes_65 rfl ?_
  refine r_callV4 (pc := 67) dX11_takes_67 qX11_names kX11_129 vX11_names (by exact isM.gx (by assumption)) rfl rfl (Nat.le_of_ble_eq_true rfl) (m_names d hB_59 hR hft h7 (by omega)) (fun v_67 h_67 q_67 => ?_)
  obtain ⟨rfl, hB_67, hS_67⟩ := q_67
  refine r_aload_n (pc := 70) dX11_takes_70 rfl (by first | rfl | exact isRefV_rf _) ?_
  refine rm_getf (pc := 71) dX11_takes_71 fX11_11 (by assumption) rfl ?_
  refine r_iload (pc := 74) dX11_takes_74 rfl ?_
  refine rj_iconst (pc := 76) dX11_takes_76 ?_
  refine rj_iconst (pc := 77) dX11_takes_77 ?_
  refine r_callS3 (pc := 78) dX11_takes_78 qX11_ofThing kX11_54 sX11_ofThing (Nat.le_of_ble_eq_true rfl) (m_ofThing (d + 1)) (fun v_78 h_78 q_78 => ?_)
  obtain ⟨rfl, rfl⟩ := q_78
  refine r_iload (pc := 81) dX11_takes_81 rfl ?_
  first | refine rm_iast0 (pc := 83) (j := 262 + 14 * N) dX11_takes_83 (by assumption) (by first | assumption | exact b01_r | exact bz_r | omega | (constructor <;> omega) | exact hM _ | exact hPo _ | exact hTa _ | exact hRo _) (by first | assumption | exact b01_r | exact bz_r | omega | (constructor <;> omega) | exact hM _ | exact hPo _ | exact hTa _ | exact hRo _) (by first | assumption | exact b01_r | exact bz_r | omega | (constructor <;> omega) | exact hM _ | exact hPo _ | exact hTa _ | exact hRo _) (by omega) (fun h_83 hB_83 hS_83 => ?_)
  refine r_aload_n (pc := 84) dX11_takes_84 rfl (by first | rfl | exact isRefV_rf _) ?_
  refine rm_getf (pc := 85) dX11_takes_85 fX11_11 (by assumption) rfl ?_
  refine r_iload (pc := 88) dX11_takes_88 rfl ?_
  refine rj_iconst (pc := 90) dX11_takes_90 ?_
  refine rj_iconst (pc := 91) dX11_takes_91 ?_
  refine r_callS3 (pc := 92) dX11_takes_92 qX11_ofThing kX11_54 sX11_ofThing (Nat.le_of_ble_eq_true rfl) (m_ofThing (d + 1)) (fun v_92 h_92 q_92 => ?_)
  obtain ⟨rfl, rfl⟩ := q_92
  refine r_iload (pc := 95) dX11_takes_95 rfl ?_
  first | refine rm_iast0 (pc := 97) (j := 263 + 14 * N) dX11_takes_97 (by assumption) (by first | assumption | exact b01_r | exact bz_r | omega | (constructor <;> omega) | exact hM _ | exact hPo _ | exact hTa _ | exact hRo _) (by first | assumption | exact b01_r | exact bz_r | omega | (constructor <;> omega) | exact hM _ | exact hPo _ | exact hTa _ | exact hRo _) (by first | assumption | exact b01_r | exact bz_r | omega | (constructor <;> omega) | exact hM _ | exact hPo _ | exact hTa _ | exact hRo _) (by omega) (fun h_97 hB_97 hS_97 => ?_)
  refine r_aload_n (pc := 98) dX11_takes_98 rfl (by first | rfl | exact isRefV_rf _) ?_
  refine rm_getf (pc := 99) dX11_takes_99 fX11_11 (by assumption) rfl ?_
  refine r_iload (pc := 102) dX11_takes_102 rfl ?_
  refine rj_bipush (pc := 104) dX11_takes_104 (by decide +kernel) ?_
  refine rj_iconst (pc := 106) dX11_takes_106 ?_
  refine r_callS3 (pc := 107) dX11_takes_107 qX11_ofThing kX11_54 sX11_ofThing (Nat.le_of_ble_eq_true rfl) (m_ofThing (d + 1)) (fun v_107 h_107 q_107 => ?_)
  obtain ⟨rfl, rfl⟩ := q_107
  refine rj_bipush (pc := 110) dX11_takes_110 (by decide +kernel) ?_
  first | refine rm_iast0 (pc := 112) (j := 264 + 14 * N) dX11_takes_112 (by assumption) (by first | assumption | exact b01_r | exact bz_r | omega | (constructor <;> omega) | exact hM _ | exact hPo _ | exact hTa _ | exact hRo _) (by first | assumption | exact b01_r | exact bz_r | omega | (constructor <;> omega) | exact hM _ | exact hPo _ | exact hTa _ | exact hRo _) (by first | assumption | exact b01_r | exact bz_r | omega | (constructor <;> omega) | exact hM _ | exact hPo _ | exact hTa _ | exact hRo _) (by omega) (fun h_112 hB_112 hS_112 => ?_)
  refine r_iload (pc := 113) dX11_takes_113 rfl ?_
  refine r_ireturn (pc := 115) .int dX11_takes_115 rfl (by first | rfl | assumption) ?_
  exact ⟨rfl, hB_112, ((((((((hS_17.trans hS_30).trans hS_43).trans hS_56).trans hS_59).trans hS_67).trans hS_83).trans hS_97).trans hS_112)⟩
end mg_30

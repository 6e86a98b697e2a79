section mg_31
set_option maxHeartbeats 4000000 in
set_option maxRecDepth 100000 in
theorem m_isAhead {G : mG} {l : Launch} (d : Nat) {h : mH} {x s : Nat} {f4 f6 f8 f9 f10 f11 f12 f13 f14 f16 f18 : Int} {m kp was pool tape pln pap rwd rw : Nat → Int}(hB : isM h x (mFs x f4 f6 f8 f9 f10 f11 f12 f13 f14 f16 f18 s) m kp was pool tape pln pap rwd rw) (hM : ∀ q, InR (m q)) {a b : Nat} (ha : a ≤ 9) (hb : b ≤ 9) (hpa : -99 ≤ m (1609 + 72 * a) ∧ m (1609 + 72 * a) ≤ 99) (hpb : -99 ≤ m (1609 + 72 * b) ∧ m (1609 + 72 * b) ≤ 99) : RUNM G l (d + 1) mX11_isAhead [.ref x, .int (J (a : Int)), .int (J (b : Int))] h (fun v h' => v = some (.int (J (b01 (aheadP m a b)))) ∧ h' = h) := by
  dsimp only [mFs] at hB
  refine RUNM.of (by decide +kernel) (Nat.le_of_ble_eq_true rfl) ?_
  refine r_aload_n (pc := 0) dX11_isAhead_0 rfl (by first | rfl | exact isRefV_rf _) ?_
  refine rm_getf (pc := 1) dX11_isAhead_1 fX11_11 (by assumption) rfl ?_
  refine r_iload_n (pc := 4) dX11_isAhead_4 rfl ?_
  refine rj_iconst (pc := 5) dX11_isAhead_5 ?_
  refine rj_iconst (pc := 6) dX11_isAhead_6 ?_
  refine r_callS3 (pc := 7) dX11_isAhead_7 qX11_ofTask kX11_58 sX11_ofTask (Nat.le_of_ble_eq_true rfl) (m_ofTask d) (fun v_7 h_7 q_7 => ?_)
  obtain ⟨rfl, rfl⟩ := q_7
  refine rj_iald (pc := 10) (j := 1609 + 72 * a) dX11_isAhead_10 (by first | exact isM.g0 (by assumption) | exact isM.g3 (by assumption) | exact isM.g4 (by assumption) | exact isM.g8 (by assumption) | exact isM.g7 (by assumption) | exact isM.g6 (by assumption) | exact isM.g5 (by assumption) | exact isM.g1 (by assumption) | exact isM.g2 (by assumption)) (by first | assumption | exact b01_r | exact bz_r | omega | (constructor <;> omega) | exact hM _ | exact hPo _ | exact hTa _ | exact hRo _) (by first | assumption | exact b01_r | exact bz_r | omega | (constructor <;> omega) | exact hM _ | exact hPo _ | exact hTa _ | exact hRo _) (by first | assumption | exact b01_r | exact bz_r | omega | (constructor <;> omega) | exact hM _ | exact hPo _ | exact hTa _ | exact hRo _) (by omega) ?_
  refine r_aload_n (pc := 11) dX11_isAhead_11 rfl (by first | rfl | exact isRefV_rf _) ?_
  refine rm_getf (pc := 12) dX11_isAhead_12 fX11_11 (by assumption) rfl ?_
  refine r_iload_n (pc := 15) dX11_isAhead_15 rfl ?_
  refine rj_iconst (pc := 16) dX11_isAhead_16 ?_
  refine rj_iconst (pc := 17) dX11_isAhead_17 ?_
  refine r_callS3 (pc := 18) dX11_isAhead_18 qX11_ofTask kX11_58 sX11_ofTask (Nat.le_of_ble_eq_true rfl) (m_ofTask d) (fun v_18 h_18 q_18 => ?_)
  obtain ⟨rfl, rfl⟩ := q_18
  refine rj_iald (pc := 21) (j := 1609 + 72 * b) dX11_isAhead_21 (by first | exact isM.g0 (by assumption) | exact isM.g3 (by assumption) | exact isM.g4 (by assumption) | exact isM.g8 (by assumption) | exact isM.g7 (by assumption) | exact isM.g6 (by assumption) | exact isM.g5 (by assumption) | exact isM.g1 (by assumption) | exact isM.g2 (by assumption)) (by first | assumption | exact b01_r | exact bz_r | omega | (constructor <;> omega) | exact hM _ | exact hPo _ | exact hTa _ | exact hRo _) (by first | assumption | exact b01_r | exact bz_r | omega | (constructor <;> omega) | exact hM _ | exact hPo _ | exact hTa _ | exact hRo _) (by first | assumption | exact b01_r | exact bz_r | omega | (constructor <;> omega) | exact hM _ | exact hPo _ | exact hTa _ | exact hRo _) (by omega) ?_
  refine rj_isub (pc := 22) dX11_isAhead_22 ?_
  refine r_istore_n (pc := 23) dX11_isAhead_23 (Nat.le_of_ble_eq_true rfl) ?_
  dsimp only [lsSt, List.set, mLs, mEnt]
  refine r_iload_n (pc := 24) dX11_isAhead_24 rfl ?_
  refine rj_if_eq (pc := 25) (tgt := 38) dX11_isAhead_25 (by decide) (by first | assumption | exact b01_r | exact bz_r | omega | (constructor <;> omega) | exact hM _ | exact hPo _ | exact hTa _ | exact hRo _) (fun c_25 => ?_) (fun c_25 => ?_)
  · try simp only [b01_0, bz_0, Classical.not_not] at c_25
    refine r_aload_n (pc := 38) dX11_isAhead_38 rfl (by first | rfl | exact isRefV_rf _) ?_
    refine rm_getf (pc := 39) dX11_isAhead_39 fX11_11 (by assumption) rfl ?_
    refine r_iload_n (pc := 42) dX11_isAhead_42 rfl ?_
    refine rj_iconst (pc := 43) dX11_isAhead_43 ?_
    refine rj_iconst (pc := 44) dX11_isAhead_44 ?_
    refine r_callS3 (pc := 45) dX11_isAhead_45 qX11_ofTask kX11_58 sX11_ofTask (Nat.le_of_ble_eq_true rfl) (m_ofTask d) (fun v_45 h_45 q_45 => ?_)
    obtain ⟨rfl, rfl⟩ := q_45
    refine rj_iald (pc := 48) (j := 1613 + 72 * a) dX11_isAhead_48 (by first | exact isM.g0 (by assumption) | exact isM.g3 (by assumption) | exact isM.g4 (by assumption) | exact isM.g8 (by assumption) | exact isM.g7 (by assumption) | exact isM.g6 (by assumption) | exact isM.g5 (by assumption) | exact isM.g1 (by assumption) | exact isM.g2 (by assumption)) (by first | assumption | exact b01_r | exact bz_r | omega | (constructor <;> omega) | exact hM _ | exact hPo _ | exact hTa _ | exact hRo _) (by first | assumption | exact b01_r | exact bz_r | omega | (constructor <;> omega) | exact hM _ | exact hPo _ | exact hTa _ | exact hRo _) (by first | assumption | exact b01_r | exact bz_r | omega | (constructor <;> omega) | exact hM _ | exact hPo _ | exact hTa _ | exact hRo _) (by omega) ?_
    refine r_aload_n (pc := 49) dX11_isAhead_49 rfl (by first | rfl | exact isRefV_rf _) ?_
    refine rm_getf (pc := 50) dX11_isAhead_50 fX11_11 (by assumption) rfl ?_
    refine r_iload_n (pc := 53) dX11_isAhead_53 rfl ?_
    refine rj_iconst (pc := 54) dX11_isAhead_54 ?_
    refine rj_iconst (pc := 55) dX11_isAhead_55 ?_
    refine r_callS3 (pc := 56) dX11_isAhead_56 qX11_ofTask kX11_58 sX11_ofTask (Nat.le_of_ble_eq_true rfl) (m_ofTask d) (fun v_56 h_56 q_56 => ?_)
    obtain ⟨rfl, rfl⟩ := q_56
    refine rj_iald (pc := 59) (j := 1613 + 72 * b) dX11_isAhead_59 (by first | exact isM.g0 (by assumption) | exact isM.g3 (by assumption) | exact isM.g4 (by assumption) | exact isM.g8 (by assumption) | exact isM.g7 (by assumption) | exact isM.g6 (by assumption) | exact isM.g5 (by assumption) | exact isM.g1 (by assumption) | exact isM.g2 (by assumption)) (by first | assumption | exact b01_r | exact bz_r | omega | (constructor <;> omega) | exact hM _ | exact hPo _ | exact hTa _ | exact hRo _) (by first | assumption | exact b01_r | exact bz_r | omega | (constructor <;> omega) | exact hM _ | exact hPo _ | exact hTa _ | exact hRo _) (by first | assumption | exact b01_r | exact bz_r | omega | (constructor <;> omega) | exact hM _ | exact hPo _ | exact hTa _ | exact hRo _) (by omega) ?_
    refine rj_icmp_eq (pc := 60) (tgt := 96) dX11_isAhead_60 (by decide) (by first | assumption | exact b01_r | exact bz_r | omega | (constructor <;> omega) | exact hM _ | exact hPo _ | exact hTa _ | exact hRo _) (by first | assumption | exact b01_r | exact bz_r | omega | (constructor <;> omega) | exact hM _ | exact hPo _ | exact hTa _ | exact hRo _) (fun c_60 => ?_) (fun c_60 => ?_)
    · refine r_iload_n (pc := 96) dX11_isAhead_96 rfl ?_
      refine r_iload_n (pc := 97) dX11_isAhead_97 rfl ?_
      refine rj_icmp_ge (pc := 98) (tgt := 105) dX11_isAhead_98 (by decide) (by first | assumption | exact b01_r | exact bz_r | omega | (constructor <;> omega) | exact hM _ | exact hPo _ | exact hTa _ | exact hRo _) (by first | assumption | exact b01_r | exact bz_r | omega | (constructor <;> omega) | exact hM _ | exact hPo _ | exact hTa _ | exact hRo _) (fun c_98 => ?_) (fun c_98 => ?_)
      · refine rj_iconst (pc := 105) dX11_isAhead_105 ?_
        refine r_ireturn (pc := 106) .boolean dX11_isAhead_106 rfl (by first | exact nar_J0 | exact nar_J1 | exact nar_b01 | exact nar_bz) ?_
        first
        | exact ⟨vt (by omega), rfl⟩
        | exact ⟨vf (by omega), rfl⟩
      · refine rj_iconst (pc := 101) dX11_isAhead_101 ?_
        refine r_goto (pc := 102) (tgt := 106) dX11_isAhead_102 (by decide) ?_
        refine r_ireturn (pc := 106) .boolean dX11_isAhead_106 rfl (by first | exact nar_J0 | exact nar_J1 | exact nar_b01 | exact nar_bz) ?_
        first
        | exact ⟨vt (by omega), rfl⟩
        | exact ⟨vf (by omega), rfl⟩
    · refine r_aload_n (pc := 63) dX11_isAhead_63 rfl (by first | rfl | exact isRefV_rf _) ?_
      refine rm_getf (pc := 64) dX11_isAhead_64 fX11_11 (by assumption) rfl ?_
      refine r_iload_n (pc := 67) dX11_isAhead_67 rfl ?_
      refine rj_iconst (pc := 68) dX11_isAhead_68 ?_
      refine rj_iconst (pc := 69) dX11_isAhead_69 ?_
      refine r_callS3 (pc := 70) dX11_isAhead_70 qX11_ofTask kX11_58 sX11_ofTask (Nat.le_of_ble_eq_true rfl) (m_ofTask d) (fun v_70 h_70 q_70 => ?_)
      obtain ⟨rfl, rfl⟩ := q_70
      refine rj_iald (pc := 73) (j := 1613 + 72 * a) dX11_isAhead_73 (by first | exact isM.g0 (by assumption) | exact isM.g3 (by assumption) | exact isM.g4 (by assumption) | exact isM.g8 (by assumption) | exact isM.g7 (by assumption) | exact isM.g6 (by assumption) | exact isM.g5 (by assumption) | exact isM.g1 (by assumption) | exact isM.g2 (by assumption)) (by first | assumption | exact b01_r | exact bz_r | omega | (constructor <;> omega) | exact hM _ | exact hPo _ | exact hTa _ | exact hRo _) (by first | assumption | exact b01_r | exact bz_r | omega | (constructor <;> omega) | exact hM _ | exact hPo _ | exact hTa _ | exact hRo _) (by first | assumption | exact b01_r | exact bz_r | omega | (constructor <;> omega) | exact hM _ | exact hPo _ | exact hTa _ | exact hRo _) (by omega) ?_
      refine r_aload_n (pc := 74) dX11_isAhead_74 rfl (by first | rfl | exact isRefV_rf _) ?_
      refine rm_getf (pc := 75) dX11_isAhead_75 fX11_11 (by assumption) rfl ?_
      refine r_iload_n (pc := 78) dX11_isAhead_78 rfl ?_
      refine rj_iconst (pc := 79) dX11_isAhead_79 ?_
      refine rj_iconst (pc := 80) dX11_isAhead_80 ?_
      refine r_callS3 (pc := 81) dX11_isAhead_81 qX11_ofTask kX11_58 sX11_ofTask (Nat.le_of_ble_eq_true rfl) (m_ofTask d) (fun v_81 h_81 q_81 => ?_)
      obtain ⟨rfl, rfl⟩ := q_81
      refine rj_iald (pc := 84) (j := 1613 + 72 * b) dX11_isAhead_84 (by first | exact isM.g0 (by assumption) | exact isM.g3 (by assumption) | exact isM.g4 (by assumption) | exact isM.g8 (by assumption) | exact isM.g7 (by assumption) | exact isM.g6 (by assumption) | exact isM.g5 (by assumption) | exact isM.g1 (by assumption) | exact isM.g2 (by assumption)) (by first | assumption | exact b01_r | exact bz_r | omega | (constructor <;> omega) | exact hM _ | exact hPo _ | exact hTa _ | exact hRo _) (by first | assumption | exact b01_r | exact bz_r | omega | (constructor <;> omega) | exact hM _ | exact hPo _ | exact hTa _ | exact hRo _) (by first | assumption | exact b01_r | exact bz_r | omega | (constructor <;> omega) | exact hM _ | exact hPo _ | exact hTa _ | exact hRo _) (by omega) ?_
      refine rj_icmp_ge (pc := 85) (tgt := 92) dX11_isAhead_85 (by decide) (by first | assumption | exact b01_r | exact bz_r | omega | (constructor <;> omega) | exact hM _ | exact hPo _ | exact hTa _ | exact hRo _) (by first | assumption | exact b01_r | exact bz_r | omega | (constructor <;> omega) | exact hM _ | exact hPo _ | exact hTa _ | exact hRo _) (fun c_85 => ?_) (fun c_85 => ?_)
      · refine rj_iconst (pc := 92) dX11_isAhead_92 ?_
        refine r_goto (pc := 93) (tgt := 106) dX11_isAhead_93 (by decide) ?_
        refine r_ireturn (pc := 106) .boolean dX11_isAhead_106 rfl (by first | exact nar_J0 | exact nar_J1 | exact nar_b01 | exact nar_bz) ?_
        first
        | exact ⟨vt (by omega), rfl⟩
        | exact ⟨vf (by omega), rfl⟩
      · refine rj_iconst (pc := 88) dX11_isAhead_88 ?_
        refine r_goto (pc := 89) (tgt := 106) dX11_isAhead_89 (by decide) ?_
        refine r_ireturn (pc := 106) .boolean dX11_isAhead_106 rfl (by first | exact nar_J0 | exact nar_J1 | exact nar_b01 | exact nar_bz) ?_
        first
        | exact ⟨vt (by omega), rfl⟩
        | exact ⟨vf (by omega), rfl⟩
  · try simp only [b01_0, bz_0, Classical.not_not] at c_25
    refine r_iload_n (pc := 28) dX11_isAhead_28 rfl ?_
    refine rj_if_le (pc := 29) (tgt := 36) dX11_isAhead_29 (by decide) (by first | assumption | exact b01_r | exact bz_r | omega | (constructor <;> omega) | exact hM _ | exact hPo _ | exact hTa _ | exact hRo _) (fun c_29 => ?_) (fun c_29 => ?_)
    · refine rj_iconst (pc := 36) dX11_isAhead_36 ?_
      refine r_ireturn (pc := 37) .boolean dX11_isAhead_37 rfl (by first | exact nar_J0 | exact nar_J1 | exact nar_b01 | exact nar_bz) ?_
      first
      | exact ⟨vt (by omega), rfl⟩
      | exact ⟨vf (by omega), rfl⟩
    · refine rj_iconst (pc := 32) dX11_isAhead_32 ?_
      refine r_goto (pc := 33) (tgt := 37) dX11_isAhead_33 (by decide) ?_
      refine r_ireturn (pc := 37) .boolean dX11_isAhead_37 rfl (by first | exact nar_J0 | exact nar_J1 | exact nar_b01 | exact nar_bz) ?_
      first
      | exact ⟨vt (by omega), rfl⟩
      | exact ⟨vf (by omega), rfl⟩
end mg_31

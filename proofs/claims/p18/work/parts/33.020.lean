section mg_35
set_option maxHeartbeats 4000000 in
set_option maxRecDepth 100000 in
theorem m_isEntry {G : mG} {l : Launch} (d : Nat) {h : mH} {x s : Nat} {f4 f6 f8 f9 f10 f11 f12 f13 f14 f16 f18 : Int} {m kp was pool tape pln pap rwd rw : Nat → Int}(hB : isM h x (mFs x f4 f6 f8 f9 f10 f11 f12 f13 f14 f16 f18 s) m kp was pool tape pln pap rwd rw) (hM : ∀ q, InR (m q)) {N C : Nat} (hN : m 1 = (N : Int)) (hcap : N ≤ 90) (hC : m 0 = (C : Int)) (hC2 : C ≤ 60) {a : Int} (ha : InR a) {e : Nat} (he : e ≤ 159) : RUNM G l (d + 2) mX11_isEntry [.ref x, .int (J (e : Int)), .int (J a)] h (fun v h' => v = some (.int (J (b01 (entryP m N C a e)))) ∧ h' = h) := by
  dsimp only [mFs] at hB
  refine RUNM.of (by decide +kernel) (Nat.le_of_ble_eq_true rfl) ?_
  have r1 := hM 1
  have r0 := hM 0
  refine r_iload_n (pc := 0) dX11_isEntry_0 rfl ?_
  refine rj_bipush (pc := 1) dX11_isEntry_1 (by decide +kernel) ?_
  refine rj_icmp_ge (pc := 3) (tgt := 45) dX11_isEntry_3 (by decide) (by first | assumption | exact b01_r | exact bz_r | omega | (constructor <;> omega) | exact hM _ | exact hPo _ | exact hTa _ | exact hRo _) (by first | assumption | exact b01_r | exact bz_r | omega | (constructor <;> omega) | exact hM _ | exact hPo _ | exact hTa _ | exact hRo _) (fun c_3 => ?_) (fun c_3 => ?_)
  · refine r_iload_n (pc := 45) dX11_isEntry_45 rfl ?_
    refine rj_bipush (pc := 46) dX11_isEntry_46 (by decide +kernel) ?_
    refine rj_isub (pc := 48) dX11_isEntry_48 ?_
    refine r_aload_n (pc := 49) dX11_isEntry_49 rfl (by first | rfl | exact isRefV_rf _) ?_
    refine rm_getf (pc := 50) dX11_isEntry_50 fX11_11 (by assumption) rfl ?_
    refine rj_iconst (pc := 53) dX11_isEntry_53 ?_
    refine rj_iald (pc := 54) (j := 0) dX11_isEntry_54 (by first | exact isM.g0 (by assumption) | exact isM.g3 (by assumption) | exact isM.g4 (by assumption) | exact isM.g8 (by assumption) | exact isM.g7 (by assumption) | exact isM.g6 (by assumption) | exact isM.g5 (by assumption) | exact isM.g1 (by assumption) | exact isM.g2 (by assumption)) (by first | assumption | exact b01_r | exact bz_r | omega | (constructor <;> omega) | exact hM _ | exact hPo _ | exact hTa _ | exact hRo _) (by first | assumption | exact b01_r | exact bz_r | omega | (constructor <;> omega) | exact hM _ | exact hPo _ | exact hTa _ | exact hRo _) (by first | assumption | exact b01_r | exact bz_r | omega | (constructor <;> omega) | exact hM _ | exact hPo _ | exact hTa _ | exact hRo _) rfl ?_
    refine rj_icmp_ge (pc := 55) (tgt := 102) dX11_isEntry_55 (by decide) (by first | assumption | exact b01_r | exact bz_r | omega | (constructor <;> omega) | exact hM _ | exact hPo _ | exact hTa _ | exact hRo _) (by first | assumption | exact b01_r | exact bz_r | omega | (constructor <;> omega) | exact hM _ | exact hPo _ | exact hTa _ | exact hRo _) (fun c_55 => ?_) (fun c_55 => ?_)
    · refine rj_iconst (pc := 102) dX11_isEntry_102 ?_
      refine r_ireturn (pc := 103) .boolean dX11_isEntry_103 rfl (by first | exact nar_J0 | exact nar_J1 | exact nar_b01 | exact nar_bz) ?_
      first
      | exact ⟨vt ((entryP_t (by omega)).mpr ⟨by omega, by rw [← n_held]; exact c_21, c_36⟩), rfl⟩
      | exact ⟨vf (fun g => by have g2 := (entryP_t (by omega)).mp g; rw [← n_held] at g2; omega), rfl⟩
      | exact ⟨vt ((entryP_s (by omega)).mpr ⟨by omega, by omega, c_78, c_95⟩), rfl⟩
      | exact ⟨vf (fun g => by have g2 := (entryP_s (by omega)).mp g; omega), rfl⟩
    · refine r_iload_n (pc := 58) dX11_isEntry_58 rfl ?_
      refine rj_bipush (pc := 59) dX11_isEntry_59 (by decide +kernel) ?_
      refine rj_icmp_le (pc := 61) (tgt := 102) dX11_isEntry_61 (by decide) (by first | assumption | exact b01_r | exact bz_r | omega | (constructor <;> omega) | exact hM _ | exact hPo _ | exact hTa _ | exact hRo _) (by first | assumption | exact b01_r | exact bz_r | omega | (constructor <;> omega) | exact hM _ | exact hPo _ | exact hTa _ | exact hRo _) (fun c_61 => ?_) (fun c_61 => ?_)
      · refine rj_iconst (pc := 102) dX11_isEntry_102 ?_
        refine r_ireturn (pc := 103) .boolean dX11_isEntry_103 rfl (by first | exact nar_J0 | exact nar_J1 | exact nar_b01 | exact nar_bz) ?_
        first
        | exact ⟨vt ((entryP_t (by omega)).mpr ⟨by omega, by rw [← n_held]; exact c_21, c_36⟩), rfl⟩
        | exact ⟨vf (fun g => by have g2 := (entryP_t (by omega)).mp g; rw [← n_held] at g2; omega), rfl⟩
        | exact ⟨vt ((entryP_s (by omega)).mpr ⟨by omega, by omega, c_78, c_95⟩), rfl⟩
        | exact ⟨vf (fun g => by have g2 := (entryP_s (by omega)).mp g; omega), rfl⟩
      · refine r_aload_n (pc := 64) dX11_isEntry_64 rfl (by first | rfl | exact isRefV_rf _) ?_
        refine rm_getf (pc := 65) dX11_isEntry_65 fX11_11 (by assumption) rfl ?_
        refine r_iload_n (pc := 68) dX11_isEntry_68 rfl ?_
        refine rj_bipush (pc := 69) dX11_isEntry_69 (by decide +kernel) ?_
        refine rj_isub (pc := 71) dX11_isEntry_71 ?_
        refine rj_iconst (pc := 72) dX11_isEntry_72 ?_
        refine r_callS2 (pc := 73) dX11_isEntry_73 qX11_ofScope kX11_42 sX11_ofScope (Nat.le_of_ble_eq_true rfl) (m_ofScope (d + 1)) (fun v_73 h_73 q_73 => ?_)
        obtain ⟨rfl, rfl⟩ := q_73
        refine rj_iald (pc := 76) (j := 18 + 4 * (e - 100)) dX11_isEntry_76 (by first | exact isM.g0 (by assumption) | exact isM.g3 (by assumption) | exact isM.g4 (by assumption) | exact isM.g8 (by assumption) | exact isM.g7 (by assumption) | exact isM.g6 (by assumption) | exact isM.g5 (by assumption) | exact isM.g1 (by assumption) | exact isM.g2 (by assumption)) (by first | assumption | exact b01_r | exact bz_r | omega | (constructor <;> omega) | exact hM _ | exact hPo _ | exact hTa _ | exact hRo _) (by first | assumption | exact b01_r | exact bz_r | omega | (constructor <;> omega) | exact hM _ | exact hPo _ | exact hTa _ | exact hRo _) (by first | assumption | exact b01_r | exact bz_r | omega | (constructor <;> omega) | exact hM _ | exact hPo _ | exact hTa _ | exact hRo _) (by omega) ?_
        refine rj_iconst (pc := 77) dX11_isEntry_77 ?_
        refine rj_icmp_eq (pc := 78) (tgt := 102) dX11_isEntry_78 (by decide) (by first | assumption | exact b01_r | exact bz_r | omega | (constructor <;> omega) | exact hM _ | exact hPo _ | exact hTa _ | exact hRo _) (by first | assumption | exact b01_r | exact bz_r | omega | (constructor <;> omega) | exact hM _ | exact hPo _ | exact hTa _ | exact hRo _) (fun c_78 => ?_) (fun c_78 => ?_)
        · refine rj_iconst (pc := 102) dX11_isEntry_102 ?_
          refine r_ireturn (pc := 103) .boolean dX11_isEntry_103 rfl (by first | exact nar_J0 | exact nar_J1 | exact nar_b01 | exact nar_bz) ?_
          first
          | exact ⟨vt ((entryP_t (by omega)).mpr ⟨by omega, by rw [← n_held]; exact c_21, c_36⟩), rfl⟩
          | exact ⟨vf (fun g => by have g2 := (entryP_t (by omega)).mp g; rw [← n_held] at g2; omega), rfl⟩
          | exact ⟨vt ((entryP_s (by omega)).mpr ⟨by omega, by omega, c_78, c_95⟩), rfl⟩
          | exact ⟨vf (fun g => by have g2 := (entryP_s (by omega)).mp g; omega), rfl⟩
        · refine r_aload_n (pc := 81) dX11_isEntry_81 rfl (by first | rfl | exact isRefV_rf _) ?_
          refine rm_getf (pc := 82) dX11_isEntry_82 fX11_11 (by assumption) rfl ?_
          refine r_iload_n (pc := 85) dX11_isEntry_85 rfl ?_
          refine rj_bipush (pc := 86) dX11_isEntry_86 (by decide +kernel) ?_
          refine rj_isub (pc := 88) dX11_isEntry_88 ?_
          refine rj_iconst (pc := 89) dX11_isEntry_89 ?_
          refine r_callS2 (pc := 90) dX11_isEntry_90 qX11_ofScope kX11_42 sX11_ofScope (Nat.le_of_ble_eq_true rfl) (m_ofScope (d + 1)) (fun v_90 h_90 q_90 => ?_)
          obtain ⟨rfl, rfl⟩ := q_90
          refine rj_iald (pc := 93) (j := 19 + 4 * (e - 100)) dX11_isEntry_93 (by first | exact isM.g0 (by assumption) | exact isM.g3 (by assumption) | exact isM.g4 (by assumption) | exact isM.g8 (by assumption) | exact isM.g7 (by assumption) | exact isM.g6 (by assumption) | exact isM.g5 (by assumption) | exact isM.g1 (by assumption) | exact isM.g2 (by assumption)) (by first | assumption | exact b01_r | exact bz_r | omega | (constructor <;> omega) | exact hM _ | exact hPo _ | exact hTa _ | exact hRo _) (by first | assumption | exact b01_r | exact bz_r | omega | (constructor <;> omega) | exact hM _ | exact hPo _ | exact hTa _ | exact hRo _) (by first | assumption | exact b01_r | exact bz_r | omega | (constructor <;> omega) | exact hM _ | exact hPo _ | exact hTa _ | exact hRo _) (by omega) ?_
          refine r_iload_n (pc := 94) dX11_isEntry_94 rfl ?_
          refine rj_icmp_ne (pc := 95) (tgt := 102) dX11_isEntry_95 (by decide) (by first | assumption | exact b01_r | exact bz_r | omega | (constructor <;> omega) | exact hM _ | exact hPo _ | exact hTa _ | exact hRo _) (by first | assumption | exact b01_r | exact bz_r | omega | (constructor <;> omega) | exact hM _ | exact hPo _ | exact hTa _ | exact hRo _) (fun c_95 => ?_) (fun c_95 => ?_)
          · refine rj_iconst (pc := 102) dX11_isEntry_102 ?_
            refine r_ireturn (pc := 103) .boolean dX11_isEntry_103 rfl (by first | exact nar_J0 | exact nar_J1 | exact nar_b01 | exact nar_bz) ?_
            first
            | exact ⟨vt ((entryP_t (by omega)).mpr ⟨by omega, by rw [← n_held]; exact c_21, c_36⟩), rfl⟩
            | exact ⟨vf (fun g => by have g2 := (entryP_t (by omega)).mp g; rw [← n_held] at g2; omega), rfl⟩
            | exact ⟨vt ((entryP_s (by omega)).mpr ⟨by omega, by omega, c_78, c_95⟩), rfl⟩
            | exact ⟨vf (fun g => by have g2 := (entryP_s (by omega)).mp g; omega), rfl⟩
          · refine rj_iconst (pc := 98) dX11_isEntry_98 ?_
            refine r_goto (pc := 99) (tgt := 103) dX11_isEntry_99 (by decide) ?_
            refine r_ireturn (pc := 103) .boolean dX11_isEntry_103 rfl (by first | exact nar_J0 | exact nar_J1 | exact nar_b01 | exact nar_bz) ?_
            first
            | exact ⟨vt ((entryP_t (by omega)).mpr ⟨by omega, by rw [← n_held]; exact c_21, c_36⟩), rfl⟩
            | exact ⟨vf (fun g => by have g2 := (entryP_t (by omega)).mp g; rw [← n_held] at g2; omega), rfl⟩
            | exact ⟨vt ((entryP_s (by omega)).mpr ⟨by omega, by omega, c_78, c_95⟩), rfl⟩
            | exact ⟨vf (fun g => by have g2 := (entryP_s (by omega)).mp g; omega), rfl⟩
  · refine r_iload_n (pc := 6) dX11_isEntry_6 rfl ?_
    refine r_aload_n (pc := 7) dX11_isEntry_7 rfl (by first | rfl | exact isRefV_rf _) ?_
    refine rm_getf (pc := 8) dX11_isEntry_8 fX11_11 (by assumption) rfl ?_
    refine rj_iconst (pc := 11) dX11_isEntry_11 ?_
    refine rj_iald (pc := 12) (j := 1) dX11_isEntry_12 (by first | exact isM.g0 (by assumption) | exact isM.g3 (by assumption) | exact isM.g4 (by assumption) | exact isM.g8 (by assumption) | exact isM.g7 (by assumption) | exact isM.g6 (by assumption) | exact isM.g5 (by assumption) | exact isM.g1 (by assumption) | exact isM.g2 (by assumption)) (by first | assumption | exact b01_r | exact bz_r | omega | (constructor <;> omega) | exact hM _ | exact hPo _ | exact hTa _ | exact hRo _) (by first | assumption | exact b01_r | exact bz_r | omega | (constructor <;> omega) | exact hM _ | exact hPo _ | exact hTa _ | exact hRo _) (by first | assumption | exact b01_r | exact bz_r | omega | (constructor <;> omega) | exact hM _ | exact hPo _ | exact hTa _ | exact hRo _) rfl ?_
    refine rj_icmp_ge (pc := 13) (tgt := 43) dX11_isEntry_13 (by decide) (by first | assumption | exact b01_r | exact bz_r | omega | (constructor <;> omega) | exact hM _ | exact hPo _ | exact hTa _ | exact hRo _) (by first | assumption | exact b01_r | exact bz_r | omega | (constructor <;> omega) | exact hM _ | exact hPo _ | exact hTa _ | exact hRo _) (fun c_13 => ?_) (fun c_13 => ?_)
    · refine rj_iconst (pc := 43) dX11_isEntry_43 ?_
      refine r_ireturn (pc := 44) .boolean dX11_isEntry_44 rfl (by first | exact nar_J0 | exact nar_J1 | exact nar_b01 | exact nar_bz) ?_
      first
      | exact ⟨vt ((entryP_t (by omega)).mpr ⟨by omega, by rw [← n_held]; exact c_21, c_36⟩), rfl⟩
      | exact ⟨vf (fun g => by have g2 := (entryP_t (by omega)).mp g; rw [← n_held] at g2; omega), rfl⟩
      | exact ⟨vt ((entryP_s (by omega)).mpr ⟨by omega, by omega, c_78, c_95⟩), rfl⟩
      | exact ⟨vf (fun g => by have g2 := (entryP_s (by omega)).mp g; omega), rfl⟩
    · refine r_aload_n (pc := 16) dX11_isEntry_16 rfl (by first | rfl | exact isRefV_rf _) ?_
      refine r_iload_n (pc := 17) dX11_isEntry_17 rfl ?_
      refine r_callV1 (pc := 18) dX11_isEntry_18 qX11_isHeld kX11_119 vX11_isHeld (by exact isM.gx (by assumption)) rfl rfl (Nat.le_of_ble_eq_true rfl) (m_isHeld d hB hM (a := (e : Int)) (by omega) (by omega)) (fun v_18 h_18 q_18 => ?_)
      obtain ⟨rfl, rfl⟩ := q_18
      refine rj_if_eq (pc := 21) (tgt := 43) dX11_isEntry_21 (by decide) (by first | assumption | exact b01_r | exact bz_r | omega | (constructor <;> omega) | exact hM _ | exact hPo _ | exact hTa _ | exact hRo _) (fun c_21 => ?_) (fun c_21 => ?_)
      · try simp only [b01_0, bz_0, Classical.not_not] at c_21
        refine rj_iconst (pc := 43) dX11_isEntry_43 ?_
        refine r_ireturn (pc := 44) .boolean dX11_isEntry_44 rfl (by first | exact nar_J0 | exact nar_J1 | exact nar_b01 | exact nar_bz) ?_
        first
        | exact ⟨vt ((entryP_t (by omega)).mpr ⟨by omega, by rw [← n_held]; exact c_21, c_36⟩), rfl⟩
        | exact ⟨vf (fun g => by have g2 := (entryP_t (by omega)).mp g; rw [← n_held] at g2; omega), rfl⟩
        | exact ⟨vt ((entryP_s (by omega)).mpr ⟨by omega, by omega, c_78, c_95⟩), rfl⟩
        | exact ⟨vf (fun g => by have g2 := (entryP_s (by omega)).mp g; omega), rfl⟩
      · try simp only [b01_0, bz_0, Classical.not_not] at c_21
        refine r_aload_n (pc := 24) dX11_isEntry_24 rfl (by first | rfl | exact isRefV_rf _) ?_
        refine rm_getf (pc := 25) dX11_isEntry_25 fX11_11 (by assumption) rfl ?_
        refine r_iload_n (pc := 28) dX11_isEntry_28 rfl ?_
        refine rj_iconst (pc := 29) dX11_isEntry_29 ?_
        refine rj_iconst (pc := 30) dX11_isEntry_30 ?_
        refine r_callS3 (pc := 31) dX11_isEntry_31 qX11_ofThing kX11_54 sX11_ofThing (Nat.le_of_ble_eq_true rfl) (m_ofThing (d + 1)) (fun v_31 h_31 q_31 => ?_)
        obtain ⟨rfl, rfl⟩ := q_31
        refine rj_iald (pc := 34) (j := 259 + 14 * e) dX11_isEntry_34 (by first | exact isM.g0 (by assumption) | exact isM.g3 (by assumption) | exact isM.g4 (by assumption) | exact isM.g8 (by assumption) | exact isM.g7 (by assumption) | exact isM.g6 (by assumption) | exact isM.g5 (by assumption) | exact isM.g1 (by assumption) | exact isM.g2 (by assumption)) (by first | assumption | exact b01_r | exact bz_r | omega | (constructor <;> omega) | exact hM _ | exact hPo _ | exact hTa _ | exact hRo _) (by first | assumption | exact b01_r | exact bz_r | omega | (constructor <;> omega) | exact hM _ | exact hPo _ | exact hTa _ | exact hRo _) (by first | assumption | exact b01_r | exact bz_r | omega | (constructor <;> omega) | exact hM _ | exact hPo _ | exact hTa _ | exact hRo _) (by omega) ?_
        refine r_iload_n (pc := 35) dX11_isEntry_35 rfl ?_
        refine rj_icmp_ne (pc := 36) (tgt := 43) dX11_isEntry_36 (by decide) (by first | assumption | exact b01_r | exact bz_r | omega | (constructor <;> omega) | exact hM _ | exact hPo _ | exact hTa _ | exact hRo _) (by first | assumption | exact b01_r | exact bz_r | omega | (constructor <;> omega) | exact hM _ | exact hPo _ | exact hTa _ | exact hRo _) (fun c_36 => ?_) (fun c_36 => ?_)
        · refine rj_iconst (pc := 43) dX11_isEntry_43 ?_
          refine r_ireturn (pc := 44) .boolean dX11_isEntry_44 rfl (by first | exact nar_J0 | exact nar_J1 | exact nar_b01 | exact nar_bz) ?_
          first
          | exact ⟨vt ((entryP_t (by omega)).mpr ⟨by omega, by rw [← n_held]; exact c_21, c_36⟩), rfl⟩
          | exact ⟨vf (fun g => by have g2 := (entryP_t (by omega)).mp g; rw [← n_held] at g2; omega), rfl⟩
          | exact ⟨vt ((entryP_s (by omega)).mpr ⟨by omega, by omega, c_78, c_95⟩), rfl⟩
          | exact ⟨vf (fun g => by have g2 := (entryP_s (by omega)).mp g; omega), rfl⟩
        · refine rj_iconst (pc := 39) dX11_isEntry_39 ?_
          refine r_goto (pc := 40) (tgt := 44) dX11_isEntry_40 (by decide) ?_
          refine r_ireturn (pc := 44) .boolean dX11_isEntry_44 rfl (by first | exact nar_J0 | exact nar_J1 | exact nar_b01 | exact nar_bz) ?_
          first
          | exact ⟨vt ((entryP_t (by omega)).mpr ⟨by omega, by rw [← n_held]; exact c_21, c_36⟩), rfl⟩
          | exact ⟨vf (fun g => by have g2 := (entryP_t (by omega)).mp g; rw [← n_held] at g2; omega), rfl⟩
          | exact ⟨vt ((entryP_s (by omega)).mpr ⟨by omega, by omega, c_78, c_95⟩), rfl⟩
          | exact ⟨vf (fun g => by have g2 := (entryP_s (by omega)).mp g; omega), rfl⟩
end mg_35

/-! ===== contracts of the reference: entries by their stamps ===== -/
def stampV (m : Nat → Int) (e : Nat) : Int := if e < 100 then m (260 + 14 * e) else m (20 + 4 * (e - 100))
abbrev entryP (m : Nat → Int) (N C : Nat) (a : Int) (e : Nat) : Prop := if e < 100 then (e < N ∧ m (258 + 14 * e) = 0 ∧ m (259 + 14 * e) = a) else (e < C + 100 ∧ 100 < e ∧ ¬ m (18 + 4 * (e - 100)) = 2 ∧ m (19 + 4 * (e - 100)) = a)
theorem entryP_t {m : Nat → Int} {N C e : Nat} {a : Int} (h : e < 100) : entryP m N C a e ↔ (e < N ∧ m (258 + 14 * e) = 0 ∧ m (259 + 14 * e) = a) := by unfold entryP; rw [if_pos h]
theorem entryP_s {m : Nat → Int} {N C e : Nat} {a : Int} (h : ¬ e < 100) : entryP m N C a e ↔ (e < C + 100 ∧ 100 < e ∧ ¬ m (18 + 4 * (e - 100)) = 2 ∧ m (19 + 4 * (e - 100)) = a) := by unfold entryP; rw [if_neg h]
set_option maxHeartbeats 4000000 in
set_option maxRecDepth 100000 in
theorem m_stampOf {G : mG} {l : Launch} (d : Nat) {h : mH} {x s : Nat} {f4 f6 f8 f9 f10 f11 f12 f13 f14 f16 f18 : Int} {m kp was pool tape pln pap rwd rw : Nat → Int}(hB : isM h x (mFs x f4 f6 f8 f9 f10 f11 f12 f13 f14 f16 f18 s) m kp was pool tape pln pap rwd rw) {e : Nat} (he : e ≤ 159) : RUNM G l (d + 1) mX11_stampOf [.ref x, .int (J (e : Int))] h (fun v h' => v = some (.int (J (stampV m e))) ∧ h' = h) := by
  dsimp only [mFs] at hB
  refine RUNM.of (by decide +kernel) (Nat.le_of_ble_eq_true rfl) ?_
  refine r_iload_n (pc := 0) dX11_stampOf_0 rfl ?_
  refine rj_bipush (pc := 1) dX11_stampOf_1 (by decide +kernel) ?_
  refine rj_icmp_ge (pc := 3) (tgt := 20) dX11_stampOf_3 (by decide) (by first | assumption | exact b01_r | exact bz_r | omega | (constructor <;> omega) | exact hM _ | exact hPo _ | exact hTa _ | exact hRo _) (by first | assumption | exact b01_r | exact bz_r | omega | (constructor <;> omega) | exact hM _ | exact hPo _ | exact hTa _ | exact hRo _) (fun c_3 => ?_) (fun c_3 => ?_)
  · refine r_aload_n (pc := 20) dX11_stampOf_20 rfl (by first | rfl | exact isRefV_rf _) ?_
    refine rm_getf (pc := 21) dX11_stampOf_21 fX11_11 (by assumption) rfl ?_
    refine r_iload_n (pc := 24) dX11_stampOf_24 rfl ?_
    refine rj_bipush (pc := 25) dX11_stampOf_25 (by decide +kernel) ?_
    refine rj_isub (pc := 27) dX11_stampOf_27 ?_
    refine rj_iconst (pc := 28) dX11_stampOf_28 ?_
    refine r_callS2 (pc := 29) dX11_stampOf_29 qX11_ofScope kX11_42 sX11_ofScope (Nat.le_of_ble_eq_true rfl) (m_ofScope d) (fun v_29 h_29 q_29 => ?_)
    obtain ⟨rfl, rfl⟩ := q_29
    refine rj_iald (pc := 32) (j := 20 + 4 * (e - 100)) dX11_stampOf_32 (by first | exact isM.g0 (by assumption) | exact isM.g3 (by assumption) | exact isM.g4 (by assumption) | exact isM.g8 (by assumption) | exact isM.g7 (by assumption) | exact isM.g6 (by assumption) | exact isM.g5 (by assumption) | exact isM.g1 (by assumption) | exact isM.g2 (by assumption)) (by first | assumption | exact b01_r | exact bz_r | omega | (constructor <;> omega) | exact hM _ | exact hPo _ | exact hTa _ | exact hRo _) (by first | assumption | exact b01_r | exact bz_r | omega | (constructor <;> omega) | exact hM _ | exact hPo _ | exact hTa _ | exact hRo _) (by first | assumption | exact b01_r | exact bz_r | omega | (constructor <;> omega) | exact hM _ | exact hPo _ | exact hTa _ | exact hRo _) (by omega) ?_
    refine r_ireturn (pc := 33) .int dX11_stampOf_33 rfl (by first | rfl | assumption) ?_
    first
    | exact ⟨by unfold stampV; rw [if_pos (by omega)], rfl⟩
    | exact ⟨by unfold stampV; rw [if_neg (by omega)], rfl⟩
  · refine r_aload_n (pc := 6) dX11_stampOf_6 rfl (by first | rfl | exact isRefV_rf _) ?_
    refine rm_getf (pc := 7) dX11_stampOf_7 fX11_11 (by assumption) rfl ?_
    refine r_iload_n (pc := 10) dX11_stampOf_10 rfl ?_
    refine rj_iconst (pc := 11) dX11_stampOf_11 ?_
    refine rj_iconst (pc := 12) dX11_stampOf_12 ?_
    refine r_callS3 (pc := 13) dX11_stampOf_13 qX11_ofThing kX11_54 sX11_ofThing (Nat.le_of_ble_eq_true rfl) (m_ofThing d) (fun v_13 h_13 q_13 => ?_)
    obtain ⟨rfl, rfl⟩ := q_13
    refine rj_iald (pc := 16) (j := 260 + 14 * e) dX11_stampOf_16 (by first | exact isM.g0 (by assumption) | exact isM.g3 (by assumption) | exact isM.g4 (by assumption) | exact isM.g8 (by assumption) | exact isM.g7 (by assumption) | exact isM.g6 (by assumption) | exact isM.g5 (by assumption) | exact isM.g1 (by assumption) | exact isM.g2 (by assumption)) (by first | assumption | exact b01_r | exact bz_r | omega | (constructor <;> omega) | exact hM _ | exact hPo _ | exact hTa _ | exact hRo _) (by first | assumption | exact b01_r | exact bz_r | omega | (constructor <;> omega) | exact hM _ | exact hPo _ | exact hTa _ | exact hRo _) (by first | assumption | exact b01_r | exact bz_r | omega | (constructor <;> omega) | exact hM _ | exact hPo _ | exact hTa _ | exact hRo _) (by omega) ?_
    refine r_goto (pc := 17) (tgt := 33) dX11_stampOf_17 (by decide) ?_
    refine r_ireturn (pc := 33) .int dX11_stampOf_33 rfl (by first | rfl | assumption) ?_
    first
    | exact ⟨by unfold stampV; rw [if_pos (by omega)], rfl⟩
    | exact ⟨by unfold stampV; rw [if_neg (by omega)], rfl⟩
set_option maxHeartbeats 4000000 in
set_option maxRecDepth 100000 in
theorem m_isEntry {G : mG} {l : Launch} (d : Nat) {h : mH} {x s : Nat} {f4 f6 f8 f9 f10 f11 f12 f13 f14 f16 f18 : Int} {m kp was pool tape pln pap rwd rw : Nat → Int}(hB : isM h x (mFs x f4 f6 f8 f9 f10 f11 f12 f13 f14 f16 f18 s) m kp was pool tape pln pap rwd rw) (hM : ∀ q, InR (m q)) {N C : Nat} (hN : m 1 = (N : Int)) (hcap : N ≤ 90) (hC : m 0 = (C : Int)) (hC2 : C ≤ 60) {a : Int} (ha : InR a) {e : Nat} (he : e ≤ 159) : RUNM G l (d + 2) mX11_isEntry [.ref x, .int (J (e : Int)), .int (J a)] h (fun v h' => v = some (.int (J (b01 (entryP m N C a e)))) ∧ h' = h) := by
  dsimp only [mFs] at hB
  refine RUNM.of (by decide +kernel) (Nat.le_of_ble_eq_true rfl) ?_
  have r1 := hM 1
  have r0 := hM 0
  refine r_iload_n (pc := 0) dX11_isEntry_0 rfl ?_
  refine rj_bipush (pc := 1) dX11_isEntry_1 (by decide +kernel) ?_
  refine rj_icmp_ge (pc := 3) (tgt := 45) dX11_isEntry_3 (by decide) (by first | assumption | exact b01_r | exact bz_r | omega | (constructor <;> omega) | exact hM _ | exact hPo _ | exact hTa _ | exact hRo _) (by first | assumption | exact b01_r | exact bz_r | omega | (constructor <;> omega) | exact hM _ | exact hPo _ | exact hTa _ | exact hRo _) (fun c_3 => ?_) (fun c_3 => ?_)
  · refine r_iload_n (pc := 45) dX11_isEntry_45 rfl ?_
    refine rj_bipush (pc := 46) dX11_isEntry_46 (by decide +kernel) ?_
    refine rj_isub (pc := 48) dX11_isEntry_48 ?_
    refine r_aload_n (pc := 49) dX11_isEntry_49 rfl (by first | rfl | exact isRefV_rf _) ?_
    refine rm_getf (pc := 50) dX11_isEntry_50 fX11_11 (by assumption) rfl ?_
    refine rj_iconst (pc := 53) dX11_isEntry_53 ?_
    refine rj_iald (pc := 54) (j := 0) dX11_isEntry_54 (by first | exact isM.g0 (by assumption) | exact isM.g3 (by assumption) | exact isM.g4 (by assumption) | exact isM.g8 (by assumption) | exact isM.g7 (by assumption) | exact isM.g6 (by assumption) | exact isM.g5 (by assumption) | exact isM.g1 (by assumption) | exact isM.g2 (by assumption)) (by first | assumption | exact b01_r | exact bz_r | omega | (constructor <;> omega) | exact hM _ | exact hPo _ | exact hTa _ | exact hRo _) (by first | assumption | exact b01_r | exact bz_r | omega | (constructor <;> omega) | exact hM _ | exact hPo _ | exact hTa _ | exact hRo _) (by first | assumption | exact b01_r | exact bz_r | omega | (constructor <;> omega) | exact hM _ | exact hPo _ | exact hTa _ | exact hRo _) rfl ?_
    refine rj_icmp_ge (pc := 55) (tgt := 102) dX11_isEntry_55 (by decide) (by first | assumption | exact b01_r | exact bz_r | omega | (constructor <;> omega) | exact hM _ | exact hPo _ | exact hTa _ | exact hRo _) (by first | assumption | exact b01_r | exact bz_r | omega | (constructor <;> omega) | exact hM _ | exact hPo _ | exact hTa _ | exact hRo _) (fun c_55 => ?_) (fun c_55 => ?_)
    · refine rj_iconst (pc := 102) dX11_isEntry_102 ?_
      refine r_ireturn (pc := 103) .boolean dX11_isEntry_103 rfl (by first | exact nar_J0 | exact nar_J1 | exact nar_b01 | exact nar_bz) ?_
      first
      | exact ⟨vt ((entryP_t (by omega)).mpr ⟨by omega, by rw [← n_held]; exact c_21, c_36⟩), rfl⟩
      | exact ⟨vf (fun g => by have g2 := (entryP_t (by omega)).mp g; rw [← n_held] at g2; omega), rfl⟩
      | exact ⟨vt ((entryP_s (by omega)).mpr ⟨by omega, by omega, c_78, c_95⟩), rfl⟩
      | exact ⟨vf (fun g => by have g2 := (entryP_s (by omega)).mp g; omega), rfl⟩
    · refine r_iload_n (pc := 58) dX11_isEntry_58 rfl ?_
      refine rj_bipush (pc := 59) dX11_isEntry_59 (by decide +kernel) ?_
      refine rj_icmp_le (pc := 61) (tgt := 102) dX11_isEntry_61 (by decide) (by first | assumption | exact b01_r | exact bz_r | omega | (constructor <;> omega) | exact hM _ | exact hPo _ | exact hTa _ | exact hRo _) (by first | assumption | exact b01_r | exact bz_r | omega | (constructor <;> omega) | exact hM _ | exact hPo _ | exact hTa _ | exact hRo _) (fun c_61 => ?_) (fun c_61 => ?_)
      · refine rj_iconst (pc := 102) dX11_isEntry_102 ?_
        refine r_ireturn (pc := 103) .boolean dX11_isEntry_103 rfl (by first | exact nar_J0 | exact nar_J1 | exact nar_b01 | exact nar_bz) ?_
        first
        | exact ⟨vt ((entryP_t (by omega)).mpr ⟨by omega, by rw [← n_held]; exact c_21, c_36⟩), rfl⟩
        | exact ⟨vf (fun g => by have g2 := (entryP_t (by omega)).mp g; rw [← n_held] at g2; omega), rfl⟩
        | exact ⟨vt ((entryP_s (by omega)).mpr ⟨by omega, by omega, c_78, c_95⟩), rfl⟩
        | exact ⟨vf (fun g => by have g2 := (entryP_s (by omega)).mp g; omega), rfl⟩
      · refine r_aload_n (pc := 64) dX11_isEntry_64 rfl (by first | rfl | exact isRefV_rf _) ?_
        refine rm_getf (pc := 65) dX11_isEntry_65 fX11_11 (by assumption) rfl ?_
        refine r_iload_n (pc := 68) dX11_isEntry_68 rfl ?_
        refine rj_bipush (pc := 69) dX11_isEntry_69 (by decide +kernel) ?_
        refine rj_isub (pc := 71) dX11_isEntry_71 ?_
        refine rj_iconst (pc := 72) dX11_isEntry_72 ?_
        refine r_callS2 (pc := 73) dX11_isEntry_73 qX11_ofScope kX11_42 sX11_ofScope (Nat.le_of_ble_eq_true rfl) (m_ofScope (d + 1)) (fun v_73 h_73 q_73 => ?_)
        obtain ⟨rfl, rfl⟩ := q_73
        refine rj_iald (pc := 76) (j := 18 + 4 * (e - 100)) dX11_isEntry_76 (by first | exact isM.g0 (by assumption) | exact isM.g3 (by assumption) | exact isM.g4 (by assumption) | exact isM.g8 (by assumption) | exact isM.g7 (by assumption) | exact isM.g6 (by assumption) | exact isM.g5 (by assumption) | exact isM.g1 (by assumption) | exact isM.g2 (by assumption)) (by first | assumption | exact b01_r | exact bz_r | omega | (constructor <;> omega) | exact hM _ | exact hPo _ | exact hTa _ | exact hRo _) (by first | assumption | exact b01_r | exact bz_r | omega | (constructor <;> omega) | exact hM _ | exact hPo _ | exact hTa _ | exact hRo _) (by first | assumption | exact b01_r | exact bz_r | omega | (constructor <;> omega) | exact hM _ | exact hPo _ | exact hTa _ | exact hRo _) (by omega) ?_
        refine rj_iconst (pc := 77) dX11_isEntry_77 ?_
        refine rj_icmp_eq (pc := 78) (tgt := 102) dX11_isEntry_78 (by decide) (by first | assumption | exact b01_r | exact bz_r | omega | (constructor <;> omega) | exact hM _ | exact hPo _ | exact hTa _ | exact hRo _) (by first | assumption | exact b01_r | exact bz_r | omega | (constructor <;> omega) | exact hM _ | exact hPo _ | exact hTa _ | exact hRo _) (fun c_78 => ?_) (fun c_78 => ?_)
        · refine rj_iconst (pc := 102) dX11_isEntry_102 ?_
          refine r_ireturn (pc := 103) .boolean dX11_isEntry_103 rfl (by first | exact nar_J0 | exact nar_J1 | exact nar_b01 | exact nar_bz) ?_
          first
          | exact ⟨vt ((entryP_t (by omega)).mpr ⟨by omega, by rw [← n_held]; exact c_21, c_36⟩), rfl⟩
          | exact ⟨vf (fun g => by have g2 := (entryP_t (by omega)).mp g; rw [← n_held] at g2; omega), rfl⟩
          | exact ⟨vt ((entryP_s (by omega)).mpr ⟨by omega, by omega, c_78, c_95⟩), rfl⟩
          | exact ⟨vf (fun g => by have g2 := (entryP_s (by omega)).mp g; omega), rfl⟩
        · refine r_aload_n (pc := 81) dX11_isEntry_81 rfl (by first | rfl | exact isRefV_rf _) ?_
          refine rm_getf (pc := 82) dX11_isEntry_82 fX11_11 (by assumption) rfl ?_
          refine r_iload_n (pc := 85) dX11_isEntry_85 rfl ?_
          refine rj_bipush (pc := 86) dX11_isEntry_86 (by decide +kernel) ?_
          refine rj_isub (pc := 88) dX11_isEntry_88 ?_
          refine rj_iconst (pc := 89) dX11_isEntry_89 ?_
          refine r_callS2 (pc := 90) dX11_isEntry_90 qX11_ofScope kX11_42 sX11_ofScope (Nat.le_of_ble_eq_true rfl) (m_ofScope (d + 1)) (fun v_90 h_90 q_90 => ?_)
          obtain ⟨rfl, rfl⟩ := q_90
          refine rj_iald (pc := 93) (j := 19 + 4 * (e - 100)) dX11_isEntry_93 (by first | exact isM.g0 (by assumption) | exact isM.g3 (by assumption) | exact isM.g4 (by assumption) | exact isM.g8 (by assumption) | exact isM.g7 (by assumption) | exact isM.g6 (by assumption) | exact isM.g5 (by assumption) | exact isM.g1 (by assumption) | exact isM.g2 (by assumption)) (by first | assumption | exact b01_r | exact bz_r | omega | (constructor <;> omega) | exact hM _ | exact hPo _ | exact hTa _ | exact hRo _) (by first | assumption | exact b01_r | exact bz_r | omega | (constructor <;> omega) | exact hM _ | exact hPo _ | exact hTa _ | exact hRo _) (by first | assumption | exact b01_r | exact bz_r | omega | (constructor <;> omega) | exact hM _ | exact hPo _ | exact hTa _ | exact hRo _) (by omega) ?_
          refine r_iload_n (pc := 94) dX11_isEntry_94 rfl ?_
          refine rj_icmp_ne (pc := 95) (tgt := 102) dX11_isEntry_95 (by decide) (by first | assumption | exact b01_r | exact bz_r | omega | (constructor <;> omega) | exact hM _ | exact hPo _ | exact hTa _ | exact hRo _) (by first | assumption | exact b01_r | exact bz_r | omega | (constructor <;> omega) | exact hM _ | exact hPo _ | exact hTa _ | exact hRo _) (fun c_95 => ?_) (fun c_95 => ?_)
          · refine rj_iconst (pc := 102) dX11_isEntry_102 ?_
            refine r_ireturn (pc := 103) .boolean dX11_isEntry_103 rfl (by first | exact nar_J0 | exact nar_J1 | exact nar_b01 | exact nar_bz) ?_
            first
            | exact ⟨vt ((entryP_t (by omega)).mpr ⟨by omega, by rw [← n_held]; exact c_21, c_36⟩), rfl⟩
            | exact ⟨vf (fun g => by have g2 := (entryP_t (by omega)).mp g; rw [← n_held] at g2; omega), rfl⟩
            | exact ⟨vt ((entryP_s (by omega)).mpr ⟨by omega, by omega, c_78, c_95⟩), rfl⟩
            | exact ⟨vf (fun g => by have g2 := (entryP_s (by omega)).mp g; omega), rfl⟩
          · refine rj_iconst (pc := 98) dX11_isEntry_98 ?_
            refine r_goto (pc := 99) (tgt := 103) dX11_isEntry_99 (by decide) ?_
            refine r_ireturn (pc := 103) .boolean dX11_isEntry_103 rfl (by first | exact nar_J0 | exact nar_J1 | exact nar_b01 | exact nar_bz) ?_
            first
            | exact ⟨vt ((entryP_t (by omega)).mpr ⟨by omega, by rw [← n_held]; exact c_21, c_36⟩), rfl⟩
            | exact ⟨vf (fun g => by have g2 := (entryP_t (by omega)).mp g; rw [← n_held] at g2; omega), rfl⟩
            | exact ⟨vt ((entryP_s (by omega)).mpr ⟨by omega, by omega, c_78, c_95⟩), rfl⟩
            | exact ⟨vf (fun g => by have g2 := (entryP_s (by omega)).mp g; omega), rfl⟩
  · refine r_iload_n (pc := 6) dX11_isEntry_6 rfl ?_
    refine r_aload_n (pc := 7) dX11_isEntry_7 rfl (by first | rfl | exact isRefV_rf _) ?_
    refine rm_getf (pc := 8) dX11_isEntry_8 fX11_11 (by assumption) rfl ?_
    refine rj_iconst (pc := 11) dX11_isEntry_11 ?_
    refine rj_iald (pc := 12) (j := 1) dX11_isEntry_12 (by first | exact isM.g0 (by assumption) | exact isM.g3 (by assumption) | exact isM.g4 (by assumption) | exact isM.g8 (by assumption) | exact isM.g7 (by assumption) | exact isM.g6 (by assumption) | exact isM.g5 (by assumption) | exact isM.g1 (by assumption) | exact isM.g2 (by assumption)) (by first | assumption | exact b01_r | exact bz_r | omega | (constructor <;> omega) | exact hM _ | exact hPo _ | exact hTa _ | exact hRo _) (by first | assumption | exact b01_r | exact bz_r | omega | (constructor <;> omega) | exact hM _ | exact hPo _ | exact hTa _ | exact hRo _) (by first | assumption | exact b01_r | exact bz_r | omega | (constructor <;> omega) | exact hM _ | exact hPo _ | exact hTa _ | exact hRo _) rfl ?_
    refine rj_icmp_ge (pc := 13) (tgt := 43) dX11_isEntry_13 (by decide) (by first | assumption | exact b01_r | exact bz_r | omega | (constructor <;> omega) | exact hM _ | exact hPo _ | exact hTa _ | exact hRo _) (by first | assumption | exact b01_r | exact bz_r | omega | (constructor <;> omega) | exact hM _ | exact hPo _ | exact hTa _ | exact hRo _) (fun c_13 => ?_) (fun c_13 => ?_)
    · refine rj_iconst (pc := 43) dX11_isEntry_43 ?_
      refine r_ireturn (pc := 44) .boolean dX11_isEntry_44 rfl (by first | exact nar_J0 | exact nar_J1 | exact nar_b01 | exact nar_bz) ?_
      first
      | exact ⟨vt ((entryP_t (by omega)).mpr ⟨by omega, by rw [← n_held]; exact c_21, c_36⟩), rfl⟩
      | exact ⟨vf (fun g => by have g2 := (entryP_t (by omega)).mp g; rw [← n_held] at g2; omega), rfl⟩
      | exact ⟨vt ((entryP_s (by omega)).mpr ⟨by omega, by omega, c_78, c_95⟩), rfl⟩
      | exact ⟨vf (fun g => by have g2 := (entryP_s (by omega)).mp g; omega), rfl⟩
    · refine r_aload_n (pc := 16) dX11_isEntry_16 rfl (by first | rfl | exact isRefV_rf _) ?_
      refine r_iload_n (pc := 17) dX11_isEntry_17 rfl ?_
      refine r_callV1 (pc := 18) dX11_isEntry_18 qX11_isHeld kX11_119 vX11_isHeld (by exact isM.gx (by assumption)) rfl rfl (Nat.le_of_ble_eq_true rfl) (m_isHeld d hB hM (a := (e : Int)) (by omega) (by omega)) (fun v_18 h_18 q_18 => ?_)
      obtain ⟨rfl, rfl⟩ := q_18
      refine rj_if_eq (pc := 21) (tgt := 43) dX11_isEntry_21 (by decide) (by first | assumption | exact b01_r | exact bz_r | omega | (constructor <;> omega) | exact hM _ | exact hPo _ | exact hTa _ | exact hRo _) (fun c_21 => ?_) (fun c_21 => ?_)
      · try simp only [b01_0, bz_0, Classical.not_not] at c_21
        refine rj_iconst (pc := 43) dX11_isEntry_43 ?_
        refine r_ireturn (pc := 44) .boolean dX11_isEntry_44 rfl (by first | exact nar_J0 | exact nar_J1 | exact nar_b01 | exact nar_bz) ?_
        first
        | exact ⟨vt ((entryP_t (by omega)).mpr ⟨by omega, by rw [← n_held]; exact c_21, c_36⟩), rfl⟩
        | exact ⟨vf (fun g => by have g2 := (entryP_t (by omega)).mp g; rw [← n_held] at g2; omega), rfl⟩
        | exact ⟨vt ((entryP_s (by omega)).mpr ⟨by omega, by omega, c_78, c_95⟩), rfl⟩
        | exact ⟨vf (fun g => by have g2 := (entryP_s (by omega)).mp g; omega), rfl⟩
      · try simp only [b01_0, bz_0, Classical.not_not] at c_21
        refine r_aload_n (pc := 24) dX11_isEntry_24 rfl (by first | rfl | exact isRefV_rf _) ?_
        refine rm_getf (pc := 25) dX11_isEntry_25 fX11_11 (by assumption) rfl ?_
        refine r_iload_n (pc := 28) dX11_isEntry_28 rfl ?_
        refine rj_iconst (pc := 29) dX11_isEntry_29 ?_
        refine rj_iconst (pc := 30) dX11_isEntry_30 ?_
        refine r_callS3 (pc := 31) dX11_isEntry_31 qX11_ofThing kX11_54 sX11_ofThing (Nat.le_of_ble_eq_true rfl) (m_ofThing (d + 1)) (fun v_31 h_31 q_31 => ?_)
        obtain ⟨rfl, rfl⟩ := q_31
        refine rj_iald (pc := 34) (j := 259 + 14 * e) dX11_isEntry_34 (by first | exact isM.g0 (by assumption) | exact isM.g3 (by assumption) | exact isM.g4 (by assumption) | exact isM.g8 (by assumption) | exact isM.g7 (by assumption) | exact isM.g6 (by assumption) | exact isM.g5 (by assumption) | exact isM.g1 (by assumption) | exact isM.g2 (by assumption)) (by first | assumption | exact b01_r | exact bz_r | omega | (constructor <;> omega) | exact hM _ | exact hPo _ | exact hTa _ | exact hRo _) (by first | assumption | exact b01_r | exact bz_r | omega | (constructor <;> omega) | exact hM _ | exact hPo _ | exact hTa _ | exact hRo _) (by first | assumption | exact b01_r | exact bz_r | omega | (constructor <;> omega) | exact hM _ | exact hPo _ | exact hTa _ | exact hRo _) (by omega) ?_
        refine r_iload_n (pc := 35) dX11_isEntry_35 rfl ?_
        refine rj_icmp_ne (pc := 36) (tgt := 43) dX11_isEntry_36 (by decide) (by first | assumption | exact b01_r | exact bz_r | omega | (constructor <;> omega) | exact hM _ | exact hPo _ | exact hTa _ | exact hRo _) (by first | assumption | exact b01_r | exact bz_r | omega | (constructor <;> omega) | exact hM _ | exact hPo _ | exact hTa _ | exact hRo _) (fun c_36 => ?_) (fun c_36 => ?_)
        · refine rj_iconst (pc := 43) dX11_isEntry_43 ?_
          refine r_ireturn (pc := 44) .boolean dX11_isEntry_44 rfl (by first | exact nar_J0 | exact nar_J1 | exact nar_b01 | exact nar_bz) ?_
          first
          | exact ⟨vt ((entryP_t (by omega)).mpr ⟨by omega, by rw [← n_held]; exact c_21, c_36⟩), rfl⟩
          | exact ⟨vf (fun g => by have g2 := (entryP_t (by omega)).mp g; rw [← n_held] at g2; omega), rfl⟩
          | exact ⟨vt ((entryP_s (by omega)).mpr ⟨by omega, by omega, c_78, c_95⟩), rfl⟩
          | exact ⟨vf (fun g => by have g2 := (entryP_s (by omega)).mp g; omega), rfl⟩
        · refine rj_iconst (pc := 39) dX11_isEntry_39 ?_
          refine r_goto (pc := 40) (tgt := 44) dX11_isEntry_40 (by decide) ?_
          refine r_ireturn (pc := 44) .boolean dX11_isEntry_44 rfl (by first | exact nar_J0 | exact nar_J1 | exact nar_b01 | exact nar_bz) ?_
          first
          | exact ⟨vt ((entryP_t (by omega)).mpr ⟨by omega, by rw [← n_held]; exact c_21, c_36⟩), rfl⟩
          | exact ⟨vf (fun g => by have g2 := (entryP_t (by omega)).mp g; rw [← n_held] at g2; omega), rfl⟩
          | exact ⟨vt ((entryP_s (by omega)).mpr ⟨by omega, by omega, c_78, c_95⟩), rfl⟩
          | exact ⟨vf (fun g => by have g2 := (entryP_s (by omega)).mp g; omega), rfl⟩
def eaL (m : Nat → Int) (N C : Nat) (a st : Int) : Nat → Nat → Int → Int
  | 0, _, f => f
  | n + 1, e, f => eaL m N C a st n (e + 1) (if entryP m N C a e ∧ stampV m e < st ∧ (f < 0 ∨ stampV m f.toNat < stampV m e) then (e : Int) else f)
theorem stampV_r {m : Nat → Int} (hM : ∀ q, InR (m q)) (e : Nat) : InR (stampV m e) := by unfold stampV; split <;> exact hM _
set_option maxHeartbeats 4000000 in
set_option maxRecDepth 100000 in
theorem L_entryAhead {G : mG} {l : Launch} (d : Nat) {h : mH} {x s : Nat} {f4 f6 f8 f9 f10 f11 f12 f13 f14 f16 f18 : Int} {m kp was pool tape pln pap rwd rw : Nat → Int}(hB : isM h x (mFs x f4 f6 f8 f9 f10 f11 f12 f13 f14 f16 f18 s) m kp was pool tape pln pap rwd rw) (hM : ∀ q, InR (m q)) {N C : Nat} (hN : m 1 = (N : Int)) (hcap : N ≤ 90) (hC : m 0 = (C : Int)) (hC2 : C ≤ 60) {a : Int} (ha : InR a) {st : Int} (hst : InR st) : ∀ (n t : Nat) (f : Int), t + n = 160 → -5 ≤ f → f < t → RUN G l (d + 3) mX11_entryAhead 6 [some (.ref x), some (.int (J a)), some (.int (J st)), some (.int (J f)), some (.int (J (t : Int)))] [] h (fun v h' => v = some (.int (J (eaL m N C a st n t f))) ∧ h' = h) := by
  dsimp only [mFs] at hB
  intro n
  induction n with
  | zero =>
    intro t f ht hf hf2
    refine r_iload (pc := 6) dX11_entryAhead_6 rfl ?_
    refine rj_sipush (pc := 8) dX11_entryAhead_8 (by decide +kernel) ?_
    refine rj_icmp_ge (pc := 11) (tgt := 61) dX11_entryAhead_11 (by decide) (by first | assumption | exact b01_r | exact bz_r | omega | (constructor <;> omega) | exact hM _ | exact hPo _ | exact hTa _ | exact hRo _) (by first | assumption | exact b01_r | exact bz_r | omega | (constructor <;> omega) | exact hM _ | exact hPo _ | exact hTa _ | exact hRo _) (fun c_11 => ?_) (fun c_11 => ?_)
    · refine r_iload_n (pc := 61) dX11_entryAhead_61 rfl ?_
      refine r_ireturn (pc := 62) .int dX11_entryAhead_62 rfl (by first | rfl | assumption) ?_
      exact ⟨rfl, rfl⟩
    · exfalso; omega
  | succ n ih =>
    intro t f ht hf hf2
    have q1 := stampV_r hM t
    have q2 := stampV_r hM f.toNat
    refine r_iload (pc := 6) dX11_entryAhead_6 rfl ?_
    refine rj_sipush (pc := 8) dX11_entryAhead_8 (by decide +kernel) ?_
    refine rj_icmp_ge (pc := 11) (tgt := 61) dX11_entryAhead_11 (by decide) (by first | assumption | exact b01_r | exact bz_r | omega | (constructor <;> omega) | exact hM _ | exact hPo _ | exact hTa _ | exact hRo _) (by first | assumption | exact b01_r | exact bz_r | omega | (constructor <;> omega) | exact hM _ | exact hPo _ | exact hTa _ | exact hRo _) (fun c_11 => ?_) (fun c_11 => ?_)
    · refine r_iload_n (pc := 61) dX11_entryAhead_61 rfl ?_
      refine r_ireturn (pc := 62) .int dX11_entryAhead_62 rfl (by first | rfl | assumption) ?_
      exfalso; omega
    · refine r_aload_n (pc := 14) dX11_entryAhead_14 rfl (by first | rfl | exact isRefV_rf _) ?_
      refine r_iload (pc := 15) dX11_entryAhead_15 rfl ?_
      refine r_iload_n (pc := 17) dX11_entryAhead_17 rfl ?_
      refine r_callV2 (pc := 18) dX11_entryAhead_18 qX11_isEntry kX11_255 vX11_isEntry (by exact isM.gx (by assumption)) rfl rfl (Nat.le_of_ble_eq_true rfl) (m_isEntry d hB hM hN hcap hC hC2 ha (e := t) (by omega)) (fun v_18 h_18 q_18 => ?_)
      obtain ⟨rfl, rfl⟩ := q_18
      refine rj_if_eq (pc := 21) (tgt := 55) dX11_entryAhead_21 (by decide) (by first | assumption | exact b01_r | exact bz_r | omega | (constructor <;> omega) | exact hM _ | exact hPo _ | exact hTa _ | exact hRo _) (fun c_21 => ?_) (fun c_21 => ?_)
      · try simp only [b01_0, bz_0, Classical.not_not] at c_21
        refine rj_iinc (pc := 55) dX11_entryAhead_55 (Nat.le_of_ble_eq_true rfl) rfl ?_
        dsimp only [lsSt, List.set, mLs, mEnt]
        refine r_goto (pc := 58) (tgt := 6) dX11_entryAhead_58 (by decide) ?_
        have z := ih (t + 1) f (by omega) hf (by omega)
        rw [eaL, if_neg (fun g => c_21 g.1)]
        exact z
      · try simp only [b01_0, bz_0, Classical.not_not] at c_21
        refine r_aload_n (pc := 24) dX11_entryAhead_24 rfl (by first | rfl | exact isRefV_rf _) ?_
        refine r_iload (pc := 25) dX11_entryAhead_25 rfl ?_
        refine r_callV1 (pc := 27) dX11_entryAhead_27 qX11_stampOf kX11_258 vX11_stampOf (by exact isM.gx (by assumption)) rfl rfl (Nat.le_of_ble_eq_true rfl) (m_stampOf (d + 1) hB (e := t) (by omega)) (fun v_27 h_27 q_27 => ?_)
        obtain ⟨rfl, rfl⟩ := q_27
        refine r_iload_n (pc := 30) dX11_entryAhead_30 rfl ?_
        refine rj_icmp_ge (pc := 31) (tgt := 55) dX11_entryAhead_31 (by decide) (by first | assumption | exact b01_r | exact bz_r | omega | (constructor <;> omega) | exact hM _ | exact hPo _ | exact hTa _ | exact hRo _) (by first | assumption | exact b01_r | exact bz_r | omega | (constructor <;> omega) | exact hM _ | exact hPo _ | exact hTa _ | exact hRo _) (fun c_31 => ?_) (fun c_31 => ?_)
        · refine rj_iinc (pc := 55) dX11_entryAhead_55 (Nat.le_of_ble_eq_true rfl) rfl ?_
          dsimp only [lsSt, List.set, mLs, mEnt]
          refine r_goto (pc := 58) (tgt := 6) dX11_entryAhead_58 (by decide) ?_
          have z := ih (t + 1) f (by omega) hf (by omega)
          rw [eaL, if_neg (fun g => by have := g.2.1; omega)]
          exact z
        · refine r_iload_n (pc := 34) dX11_entryAhead_34 rfl ?_
          refine rj_if_lt (pc := 35) (tgt := 52) dX11_entryAhead_35 (by decide) (by first | assumption | exact b01_r | exact bz_r | omega | (constructor <;> omega) | exact hM _ | exact hPo _ | exact hTa _ | exact hRo _) (fun c_35 => ?_) (fun c_35 => ?_)
          · refine r_iload (pc := 52) dX11_entryAhead_52 rfl ?_
            refine r_istore_n (pc := 54) dX11_entryAhead_54 (Nat.le_of_ble_eq_true rfl) ?_
            dsimp only [lsSt, List.set, mLs, mEnt]
            refine rj_iinc (pc := 55) dX11_entryAhead_55 (Nat.le_of_ble_eq_true rfl) rfl ?_
            dsimp only [lsSt, List.set, mLs, mEnt]
            refine r_goto (pc := 58) (tgt := 6) dX11_entryAhead_58 (by decide) ?_
            have z := ih (t + 1) (t : Int) (by omega) (by omega) (by omega)
            rw [eaL, if_pos ⟨c_21, by omega, Or.inl (by omega)⟩]
            exact z
          · refine r_aload_n (pc := 38) dX11_entryAhead_38 rfl (by first | rfl | exact isRefV_rf _) ?_
            refine r_iload (pc := 39) dX11_entryAhead_39 rfl ?_
            refine r_callV1 (pc := 41) dX11_entryAhead_41 qX11_stampOf kX11_258 vX11_stampOf (by exact isM.gx (by assumption)) rfl rfl (Nat.le_of_ble_eq_true rfl) (m_stampOf (d + 1) hB (e := t) (by omega)) (fun v_41 h_41 q_41 => ?_)
            obtain ⟨rfl, rfl⟩ := q_41
            refine r_aload_n (pc := 44) dX11_entryAhead_44 rfl (by first | rfl | exact isRefV_rf _) ?_
            refine r_iload_n (pc := 45) dX11_entryAhead_45 rfl ?_
            refine r_callV1 (pc := 46) dX11_entryAhead_46 qX11_stampOf kX11_258 vX11_stampOf (by exact isM.gx (by assumption)) rfl rfl (Nat.le_of_ble_eq_true rfl) (by rw [show f = ((f.toNat : Nat) : Int) by omega]; exact m_stampOf (d + 1) hB (e := f.toNat) (by omega)) (fun v_46 h_46 q_46 => ?_)
            obtain ⟨rfl, rfl⟩ := q_46
            refine rj_icmp_le (pc := 49) (tgt := 55) dX11_entryAhead_49 (by decide) (by first | assumption | exact b01_r | exact bz_r | omega | (constructor <;> omega) | exact hM _ | exact hPo _ | exact hTa _ | exact hRo _) (by first | assumption | exact b01_r | exact bz_r | omega | (constructor <;> omega) | exact hM _ | exact hPo _ | exact hTa _ | exact hRo _) (fun c_49 => ?_) (fun c_49 => ?_)
            · refine rj_iinc (pc := 55) dX11_entryAhead_55 (Nat.le_of_ble_eq_true rfl) rfl ?_
              dsimp only [lsSt, List.set, mLs, mEnt]
              refine r_goto (pc := 58) (tgt := 6) dX11_entryAhead_58 (by decide) ?_
              have z := ih (t + 1) f (by omega) hf (by omega)
              rw [eaL, if_neg (fun g => by have := g.2.2; omega)]
              exact z
            · refine r_iload (pc := 52) dX11_entryAhead_52 rfl ?_
              refine r_istore_n (pc := 54) dX11_entryAhead_54 (Nat.le_of_ble_eq_true rfl) ?_
              dsimp only [lsSt, List.set, mLs, mEnt]
              refine rj_iinc (pc := 55) dX11_entryAhead_55 (Nat.le_of_ble_eq_true rfl) rfl ?_
              dsimp only [lsSt, List.set, mLs, mEnt]
              refine r_goto (pc := 58) (tgt := 6) dX11_entryAhead_58 (by decide) ?_
              have z := ih (t + 1) (t : Int) (by omega) (by omega) (by omega)
              rw [eaL, if_pos ⟨c_21, by omega, Or.inr (by omega)⟩]
              exact z
set_option maxHeartbeats 4000000 in
set_option maxRecDepth 100000 in
theorem m_entryAhead {G : mG} {l : Launch} (d : Nat) {h : mH} {x s : Nat} {f4 f6 f8 f9 f10 f11 f12 f13 f14 f16 f18 : Int} {m kp was pool tape pln pap rwd rw : Nat → Int}(hB : isM h x (mFs x f4 f6 f8 f9 f10 f11 f12 f13 f14 f16 f18 s) m kp was pool tape pln pap rwd rw) (hM : ∀ q, InR (m q)) {N C : Nat} (hN : m 1 = (N : Int)) (hcap : N ≤ 90) (hC : m 0 = (C : Int)) (hC2 : C ≤ 60) {a : Int} (ha : InR a) {st : Int} (hst : InR st) : RUNM G l (d + 3) mX11_entryAhead [.ref x, .int (J a), .int (J st)] h (fun v h' => v = some (.int (J (eaL m N C a st 160 0 (-5)))) ∧ h' = h) := by
  refine RUNM.of (by decide +kernel) (Nat.le_of_ble_eq_true rfl) ?_
  refine rj_bipush (pc := 0) dX11_entryAhead_0 (by decide +kernel) ?_
  refine r_istore_n (pc := 2) dX11_entryAhead_2 (Nat.le_of_ble_eq_true rfl) ?_
  dsimp only [lsSt, List.set, mLs, mEnt]
  refine rj_iconst (pc := 3) dX11_entryAhead_3 ?_
  refine r_istore (pc := 4) dX11_entryAhead_4 (Nat.le_of_ble_eq_true rfl) ?_
  dsimp only [lsSt, List.set, mLs, mEnt]
  exact L_entryAhead d hB hM hN hcap hC hC2 ha hst 160 0 (-5) rfl (by decide) (by decide)

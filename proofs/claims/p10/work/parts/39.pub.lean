/-! ===== contracts of the reference: told, faults, name, youngest ===== -/
set_option maxHeartbeats 4000000 in
set_option maxRecDepth 100000 in
theorem m_hasFaults {G : mG} {l : Launch} (d : Nat) {h : mH} {x s : Nat} {f4 f6 f8 f9 f10 f11 f12 f13 f14 f16 f18 : Int} {m kp was pool tape pln pap rwd rw : Nat → Int}(hB : isM h x (mFs x f4 f6 f8 f9 f10 f11 f12 f13 f14 f16 f18 s) m kp was pool tape pln pap rwd rw) (hM : ∀ q, InR (m q)) (h3 : 0 ≤ m 3 ∧ m 3 ≤ 10) {t : Int} (ht : InR t) : RUNM G l (d + 2) mX11_hasFaults [.ref x, .int (J t)] h (fun v h' => v = some (.int (J (b01 (t = -1 ∨ (0 ≤ t ∧ t ≤ m 3 - 1))))) ∧ h' = h) := by
  dsimp only [mFs] at hB
  refine RUNM.of (by decide +kernel) (Nat.le_of_ble_eq_true rfl) ?_
  refine r_iload_n (pc := 0) dX11_hasFaults_0 rfl ?_
  refine rj_iconst (pc := 1) dX11_hasFaults_1 ?_
  refine rj_icmp_eq (pc := 2) (tgt := 13) dX11_hasFaults_2 (by decide) (by first | assumption | exact b01_r | exact bz_r | omega | (constructor <;> omega) | exact hM _ | exact hPo _ | exact hTa _ | exact hRo _) (by first | assumption | exact b01_r | exact bz_r | omega | (constructor <;> omega) | exact hM _ | exact hPo _ | exact hTa _ | exact hRo _) (fun c_2 => ?_) (fun c_2 => ?_)
  · refine rj_iconst (pc := 13) dX11_hasFaults_13 ?_
    refine r_goto (pc := 14) (tgt := 18) dX11_hasFaults_14 (by decide) ?_
    refine r_ireturn (pc := 18) .boolean dX11_hasFaults_18 rfl (by first | exact nar_J0 | exact nar_J1 | exact nar_b01 | exact nar_bz) ?_
    first
    | exact ⟨rfl, rfl⟩
    | exact ⟨vf (by omega), rfl⟩
    | exact ⟨vt (by omega), rfl⟩
  · refine r_aload_n (pc := 5) dX11_hasFaults_5 rfl (by first | rfl | exact isRefV_rf _) ?_
    refine r_iload_n (pc := 6) dX11_hasFaults_6 rfl ?_
    refine r_callV1 (pc := 7) dX11_hasFaults_7 qX11_isTask kX11_180 vX11_isTask (by exact isM.gx (by assumption)) rfl rfl (Nat.le_of_ble_eq_true rfl) (m_isTask d hB ht ⟨by omega, by omega⟩) (fun v_7 h_7 q_7 => ?_)
    obtain ⟨rfl, rfl⟩ := q_7
    refine rj_if_eq (pc := 10) (tgt := 17) dX11_hasFaults_10 (by decide) (by first | assumption | exact b01_r | exact bz_r | omega | (constructor <;> omega) | exact hM _ | exact hPo _ | exact hTa _ | exact hRo _) (fun c_10 => ?_) (fun c_10 => ?_)
    · try simp only [b01_0, bz_0, Classical.not_not] at c_10
      refine rj_iconst (pc := 17) dX11_hasFaults_17 ?_
      refine r_ireturn (pc := 18) .boolean dX11_hasFaults_18 rfl (by first | exact nar_J0 | exact nar_J1 | exact nar_b01 | exact nar_bz) ?_
      first
      | exact ⟨rfl, rfl⟩
      | exact ⟨vf (by omega), rfl⟩
      | exact ⟨vt (by omega), rfl⟩
    · try simp only [b01_0, bz_0, Classical.not_not] at c_10
      refine rj_iconst (pc := 13) dX11_hasFaults_13 ?_
      refine r_goto (pc := 14) (tgt := 18) dX11_hasFaults_14 (by decide) ?_
      refine r_ireturn (pc := 18) .boolean dX11_hasFaults_18 rfl (by first | exact nar_J0 | exact nar_J1 | exact nar_b01 | exact nar_bz) ?_
      first
      | exact ⟨rfl, rfl⟩
      | exact ⟨vf (by omega), rfl⟩
      | exact ⟨vt (by omega), rfl⟩
def manyV (m : Nat → Int) (N : Nat) (t : Int) : Int := if 0 ≤ t then cnt (faultB m t) N + (if m (1618 + 72 * t).toNat = 0 then 0 else 1) else m 5
set_option maxHeartbeats 4000000 in
set_option maxRecDepth 100000 in
theorem m_manyFaults {G : mG} {l : Launch} (d : Nat) {h : mH} {x s : Nat} {f4 f6 f8 f9 f10 f11 f12 f13 f14 f16 f18 : Int} {m kp was pool tape pln pap rwd rw : Nat → Int}(hB : isM h x (mFs x f4 f6 f8 f9 f10 f11 f12 f13 f14 f16 f18 s) m kp was pool tape pln pap rwd rw) (hM : ∀ q, InR (m q)) {N : Nat} (hN : m 4 = (N : Int)) (hcap : N ≤ 120) {t : Int} (ht : InR t) (ht2 : t ≤ 9) : RUNM G l (d + 3) mX11_manyFaults [.ref x, .int (J t)] h (fun v h' => v = some (.int (J (manyV m N t))) ∧ h' = h) := by
  have hB0 := hB
  dsimp only [mFs] at hB
  refine RUNM.of (by decide +kernel) (Nat.le_of_ble_eq_true rfl) ?_
  refine r_iload_n (pc := 0) dX11_manyFaults_0 rfl ?_
  refine rj_if_ge (pc := 1) (tgt := 13) dX11_manyFaults_1 (by decide) (by first | assumption | exact b01_r | exact bz_r | omega | (constructor <;> omega) | exact hM _ | exact hPo _ | exact hTa _ | exact hRo _) (fun c_1 => ?_) (fun c_1 => ?_)
  · refine r_aload_n (pc := 13) dX11_manyFaults_13 rfl (by first | rfl | exact isRefV_rf _) ?_
    refine r_iload_n (pc := 14) dX11_manyFaults_14 rfl ?_
    refine r_callV1 (pc := 15) dX11_manyFaults_15 qX11_gatheredBy kX11_198 vX11_gatheredBy (by exact isM.gx (by assumption)) rfl rfl (Nat.le_of_ble_eq_true rfl) (m_gatheredBy d hB0 hM hN hcap ht) (fun v_15 h_15 q_15 => ?_)
    obtain ⟨rfl, rfl⟩ := q_15
    refine r_aload_n (pc := 18) dX11_manyFaults_18 rfl (by first | rfl | exact isRefV_rf _) ?_
    refine rm_getf (pc := 19) dX11_manyFaults_19 fX11_11 (by assumption) rfl ?_
    refine r_iload_n (pc := 22) dX11_manyFaults_22 rfl ?_
    refine rj_bipush (pc := 23) dX11_manyFaults_23 (by decide +kernel) ?_
    refine rj_iconst (pc := 25) dX11_manyFaults_25 ?_
    refine r_callS3 (pc := 26) dX11_manyFaults_26 qX11_ofTask kX11_58 sX11_ofTask (Nat.le_of_ble_eq_true rfl) (m_ofTask (d + 2)) (fun v_26 h_26 q_26 => ?_)
    obtain ⟨rfl, rfl⟩ := q_26
    refine rj_iald (pc := 29) (j := (1618 + 72 * t).toNat) dX11_manyFaults_29 (by first | exact isM.g0 (by assumption) | exact isM.g3 (by assumption) | exact isM.g4 (by assumption) | exact isM.g8 (by assumption) | exact isM.g7 (by assumption) | exact isM.g6 (by assumption) | exact isM.g5 (by assumption) | exact isM.g1 (by assumption) | exact isM.g2 (by assumption)) (by first | assumption | exact b01_r | exact bz_r | omega | (constructor <;> omega) | exact hM _ | exact hPo _ | exact hTa _ | exact hRo _) (by first | assumption | exact b01_r | exact bz_r | omega | (constructor <;> omega) | exact hM _ | exact hPo _ | exact hTa _ | exact hRo _) (by first | assumption | exact b01_r | exact bz_r | omega | (constructor <;> omega) | exact hM _ | exact hPo _ | exact hTa _ | exact hRo _) (by omega) ?_
    refine rj_if_eq (pc := 30) (tgt := 37) dX11_manyFaults_30 (by decide) (by first | assumption | exact b01_r | exact bz_r | omega | (constructor <;> omega) | exact hM _ | exact hPo _ | exact hTa _ | exact hRo _) (fun c_30 => ?_) (fun c_30 => ?_)
    · try simp only [b01_0, bz_0, Classical.not_not] at c_30
      refine rj_iconst (pc := 37) dX11_manyFaults_37 ?_
      refine rj_iadd (pc := 38) dX11_manyFaults_38 ?_
      refine r_ireturn (pc := 39) .int dX11_manyFaults_39 rfl (by first | rfl | assumption) ?_
      first
      | exact ⟨by unfold manyV; rw [if_neg (by omega)], rfl⟩
      | exact ⟨by unfold manyV; rw [if_pos (by omega), if_pos c_30], rfl⟩
      | exact ⟨by unfold manyV; rw [if_pos (by omega), if_neg c_30], rfl⟩
    · try simp only [b01_0, bz_0, Classical.not_not] at c_30
      refine rj_iconst (pc := 33) dX11_manyFaults_33 ?_
      refine r_goto (pc := 34) (tgt := 38) dX11_manyFaults_34 (by decide) ?_
      refine rj_iadd (pc := 38) dX11_manyFaults_38 ?_
      refine r_ireturn (pc := 39) .int dX11_manyFaults_39 rfl (by first | rfl | assumption) ?_
      first
      | exact ⟨by unfold manyV; rw [if_neg (by omega)], rfl⟩
      | exact ⟨by unfold manyV; rw [if_pos (by omega), if_pos c_30], rfl⟩
      | exact ⟨by unfold manyV; rw [if_pos (by omega), if_neg c_30], rfl⟩
  · refine r_aload_n (pc := 4) dX11_manyFaults_4 rfl (by first | rfl | exact isRefV_rf _) ?_
    refine rm_getf (pc := 5) dX11_manyFaults_5 fX11_11 (by assumption) rfl ?_
    refine rj_iconst (pc := 8) dX11_manyFaults_8 ?_
    refine rj_iald (pc := 9) (j := 5) dX11_manyFaults_9 (by first | exact isM.g0 (by assumption) | exact isM.g3 (by assumption) | exact isM.g4 (by assumption) | exact isM.g8 (by assumption) | exact isM.g7 (by assumption) | exact isM.g6 (by assumption) | exact isM.g5 (by assumption) | exact isM.g1 (by assumption) | exact isM.g2 (by assumption)) (by first | assumption | exact b01_r | exact bz_r | omega | (constructor <;> omega) | exact hM _ | exact hPo _ | exact hTa _ | exact hRo _) (by first | assumption | exact b01_r | exact bz_r | omega | (constructor <;> omega) | exact hM _ | exact hPo _ | exact hTa _ | exact hRo _) (by first | assumption | exact b01_r | exact bz_r | omega | (constructor <;> omega) | exact hM _ | exact hPo _ | exact hTa _ | exact hRo _) rfl ?_
    refine r_goto (pc := 10) (tgt := 39) dX11_manyFaults_10 (by decide) ?_
    refine r_ireturn (pc := 39) .int dX11_manyFaults_39 rfl (by first | rfl | assumption) ?_
    first
    | exact ⟨by unfold manyV; rw [if_neg (by omega)], rfl⟩
    | exact ⟨by unfold manyV; rw [if_pos (by omega), if_pos c_30], rfl⟩
    | exact ⟨by unfold manyV; rw [if_pos (by omega), if_neg c_30], rfl⟩
def faultsV (m : Nat → Int) (N : Nat) (t : Int) : Int := if t = -1 ∨ (0 ≤ t ∧ t ≤ m 3 - 1) then manyV m N t else -1
set_option maxHeartbeats 4000000 in
set_option maxRecDepth 100000 in
theorem m_faults {G : mG} {l : Launch} (d : Nat) {h : mH} {x s : Nat} {f4 f6 f8 f9 f10 f11 f12 f13 f14 f16 f18 : Int} {m kp was pool tape pln pap rwd rw : Nat → Int}(hB : isM h x (mFs x f4 f6 f8 f9 f10 f11 f12 f13 f14 f16 f18 s) m kp was pool tape pln pap rwd rw) (hM : ∀ q, InR (m q)) (h3 : 0 ≤ m 3 ∧ m 3 ≤ 10) {N : Nat} (hN : m 4 = (N : Int)) (hcap : N ≤ 120) {t : Int} (ht : InR t) : RUNM G l (d + 4) mX11_faults [.ref x, .int (J t)] h (fun v h' => v = some (.int (J (faultsV m N t))) ∧ h' = h) := by
  have hB0 := hB
  dsimp only [mFs] at hB
  refine RUNM.of (by decide +kernel) (Nat.le_of_ble_eq_true rfl) ?_
  refine r_aload_n (pc := 0) dX11_faults_0 rfl (by first | rfl | exact isRefV_rf _) ?_
  refine r_iload_n (pc := 1) dX11_faults_1 rfl ?_
  refine r_callV1 (pc := 2) dX11_faults_2 qX11_hasFaults kX11_229 vX11_hasFaults (by exact isM.gx (by assumption)) rfl rfl (Nat.le_of_ble_eq_true rfl) (m_hasFaults (d + 1) hB0 hM h3 ht) (fun v_2 h_2 q_2 => ?_)
  obtain ⟨rfl, rfl⟩ := q_2
  refine rj_if_eq (pc := 5) (tgt := 16) dX11_faults_5 (by decide) (by first | assumption | exact b01_r | exact bz_r | omega | (constructor <;> omega) | exact hM _ | exact hPo _ | exact hTa _ | exact hRo _) (fun c_5 => ?_) (fun c_5 => ?_)
  · try simp only [b01_0, bz_0, Classical.not_not] at c_5
    refine rj_iconst (pc := 16) dX11_faults_16 ?_
    refine r_ireturn (pc := 17) .int dX11_faults_17 rfl (by first | rfl | assumption) ?_
    first
    | exact ⟨by unfold faultsV; rw [if_pos c_5], rfl⟩
    | exact ⟨by unfold faultsV; rw [if_neg c_5], rfl⟩
  · try simp only [b01_0, bz_0, Classical.not_not] at c_5
    refine r_aload_n (pc := 8) dX11_faults_8 rfl (by first | rfl | exact isRefV_rf _) ?_
    refine r_iload_n (pc := 9) dX11_faults_9 rfl ?_
    refine r_callV1 (pc := 10) dX11_faults_10 qX11_manyFaults kX11_232 vX11_manyFaults (by exact isM.gx (by assumption)) rfl rfl (Nat.le_of_ble_eq_true rfl) (m_manyFaults d hB0 hM hN hcap ht (by omega)) (fun v_10 h_10 q_10 => ?_)
    obtain ⟨rfl, rfl⟩ := q_10
    refine r_goto (pc := 13) (tgt := 17) dX11_faults_13 (by decide) ?_
    refine r_ireturn (pc := 17) .int dX11_faults_17 rfl (by first | rfl | assumption) ?_
    first
    | exact ⟨by unfold faultsV; rw [if_pos c_5], rfl⟩
    | exact ⟨by unfold faultsV; rw [if_neg c_5], rfl⟩
def toldV (m : Nat → Int) (f6 f18 : Int) (N C T : Nat) (k : Int) : Int := if k = 0 then m 0 else if k = 1 then cnt (openB m) C else if k = 2 then m 1 else if k = 3 then cnt (heldB m) N else if k = 4 then m 3 else if k = 5 then cnt (readyB m) T else if k = 6 then m 7 else if k = 7 then m 2 else if k = 8 then f6 else if k = 9 then f18 else -1
set_option maxHeartbeats 4000000 in
set_option maxRecDepth 100000 in
theorem m_told {G : mG} {l : Launch} (d : Nat) {h : mH} {x s : Nat} {f4 f6 f8 f9 f10 f11 f12 f13 f14 f16 f18 : Int} {m kp was pool tape pln pap rwd rw : Nat → Int}(hB : isM h x (mFs x f4 f6 f8 f9 f10 f11 f12 f13 f14 f16 f18 s) m kp was pool tape pln pap rwd rw) (hM : ∀ q, InR (m q)) {N C T : Nat} (hN : m 1 = (N : Int)) (hcap : N ≤ 90) (hC : m 0 = (C : Int)) (hC2 : C ≤ 60) (hT : m 3 = (T : Int)) (hT2 : T ≤ 10) {k : Int} (hk : InR k) : RUNM G l (d + 4) mX11_told [.ref x, .int (J k)] h (fun v h' => v = some (.int (J (toldV m f6 f18 N C T k))) ∧ h' = h) := by
  have hB0 := hB
  dsimp only [mFs] at hB
  refine RUNM.of (by decide +kernel) (Nat.le_of_ble_eq_true rfl) ?_
  refine r_iload_n (pc := 0) dX11_told_0 rfl ?_
  refine rj_tsw (pc := 1) dX11_told_1 (by first | assumption | exact b01_r | exact bz_r | omega | (constructor <;> omega) | exact hM _ | exact hPo _ | exact hTa _ | exact hRo _) (by decide) (by decide) (by decide) (fun off_1 tgt_1 ho_1 ht_1 => ?_)
  by_cases e_1_0 : k = 0
  · rw [e_1_0] at ho_1
    obtain rfl : off_1 = 55 := ho_1.symm.trans (by decide)
    obtain rfl : tgt_1 = 56 := by omega
    refine r_aload_n (pc := 56) dX11_told_56 rfl (by first | rfl | exact isRefV_rf _) ?_
    refine rm_getf (pc := 57) dX11_told_57 fX11_11 (by assumption) rfl ?_
    refine rj_iconst (pc := 60) dX11_told_60 ?_
    refine rj_iald (pc := 61) (j := 0) dX11_told_61 (by first | exact isM.g0 (by assumption) | exact isM.g3 (by assumption) | exact isM.g4 (by assumption) | exact isM.g8 (by assumption) | exact isM.g7 (by assumption) | exact isM.g6 (by assumption) | exact isM.g5 (by assumption) | exact isM.g1 (by assumption) | exact isM.g2 (by assumption)) (by first | assumption | exact b01_r | exact bz_r | omega | (constructor <;> omega) | exact hM _ | exact hPo _ | exact hTa _ | exact hRo _) (by first | assumption | exact b01_r | exact bz_r | omega | (constructor <;> omega) | exact hM _ | exact hPo _ | exact hTa _ | exact hRo _) (by first | assumption | exact b01_r | exact bz_r | omega | (constructor <;> omega) | exact hM _ | exact hPo _ | exact hTa _ | exact hRo _) rfl ?_
    refine r_ireturn (pc := 62) .int dX11_told_62 rfl (by first | rfl | assumption) ?_
    exact ⟨by unfold toldV; rw [if_pos e_1_0], rfl⟩
  by_cases e_1_1 : k = 1
  · rw [e_1_1] at ho_1
    obtain rfl : off_1 = 62 := ho_1.symm.trans (by decide)
    obtain rfl : tgt_1 = 63 := by omega
    refine r_aload_n (pc := 63) dX11_told_63 rfl (by first | rfl | exact isRefV_rf _) ?_
    refine r_callV0 (pc := 64) dX11_told_64 qX11_opened kX11_292 vX11_opened (by exact isM.gx (by assumption)) rfl rfl (Nat.le_of_ble_eq_true rfl) (m_opened d hB0 hM hC hC2) (fun v_64 h_64 q_64 => ?_)
    obtain ⟨rfl, rfl⟩ := q_64
    refine r_ireturn (pc := 67) .int dX11_told_67 rfl (by first | rfl | assumption) ?_
    exact ⟨by unfold toldV; rw [if_neg e_1_0, if_pos e_1_1], rfl⟩
  by_cases e_1_2 : k = 2
  · rw [e_1_2] at ho_1
    obtain rfl : off_1 = 67 := ho_1.symm.trans (by decide)
    obtain rfl : tgt_1 = 68 := by omega
    refine r_aload_n (pc := 68) dX11_told_68 rfl (by first | rfl | exact isRefV_rf _) ?_
    refine rm_getf (pc := 69) dX11_told_69 fX11_11 (by assumption) rfl ?_
    refine rj_iconst (pc := 72) dX11_told_72 ?_
    refine rj_iald (pc := 73) (j := 1) dX11_told_73 (by first | exact isM.g0 (by assumption) | exact isM.g3 (by assumption) | exact isM.g4 (by assumption) | exact isM.g8 (by assumption) | exact isM.g7 (by assumption) | exact isM.g6 (by assumption) | exact isM.g5 (by assumption) | exact isM.g1 (by assumption) | exact isM.g2 (by assumption)) (by first | assumption | exact b01_r | exact bz_r | omega | (constructor <;> omega) | exact hM _ | exact hPo _ | exact hTa _ | exact hRo _) (by first | assumption | exact b01_r | exact bz_r | omega | (constructor <;> omega) | exact hM _ | exact hPo _ | exact hTa _ | exact hRo _) (by first | assumption | exact b01_r | exact bz_r | omega | (constructor <;> omega) | exact hM _ | exact hPo _ | exact hTa _ | exact hRo _) rfl ?_
    refine r_ireturn (pc := 74) .int dX11_told_74 rfl (by first | rfl | assumption) ?_
    exact ⟨by unfold toldV; rw [if_neg e_1_0, if_neg e_1_1, if_pos e_1_2], rfl⟩
  by_cases e_1_3 : k = 3
  · rw [e_1_3] at ho_1
    obtain rfl : off_1 = 74 := ho_1.symm.trans (by decide)
    obtain rfl : tgt_1 = 75 := by omega
    refine r_aload_n (pc := 75) dX11_told_75 rfl (by first | rfl | exact isRefV_rf _) ?_
    refine r_callV0 (pc := 76) dX11_told_76 qX11_held kX11_276 vX11_held (by exact isM.gx (by assumption)) rfl rfl (Nat.le_of_ble_eq_true rfl) (m_held (d + 1) hB0 hM hN hcap) (fun v_76 h_76 q_76 => ?_)
    obtain ⟨rfl, rfl⟩ := q_76
    refine r_ireturn (pc := 79) .int dX11_told_79 rfl (by first | rfl | assumption) ?_
    exact ⟨by unfold toldV; rw [if_neg e_1_0, if_neg e_1_1, if_neg e_1_2, if_pos e_1_3], rfl⟩
  by_cases e_1_4 : k = 4
  · rw [e_1_4] at ho_1
    obtain rfl : off_1 = 79 := ho_1.symm.trans (by decide)
    obtain rfl : tgt_1 = 80 := by omega
    refine r_aload_n (pc := 80) dX11_told_80 rfl (by first | rfl | exact isRefV_rf _) ?_
    refine rm_getf (pc := 81) dX11_told_81 fX11_11 (by assumption) rfl ?_
    refine rj_iconst (pc := 84) dX11_told_84 ?_
    refine rj_iald (pc := 85) (j := 3) dX11_told_85 (by first | exact isM.g0 (by assumption) | exact isM.g3 (by assumption) | exact isM.g4 (by assumption) | exact isM.g8 (by assumption) | exact isM.g7 (by assumption) | exact isM.g6 (by assumption) | exact isM.g5 (by assumption) | exact isM.g1 (by assumption) | exact isM.g2 (by assumption)) (by first | assumption | exact b01_r | exact bz_r | omega | (constructor <;> omega) | exact hM _ | exact hPo _ | exact hTa _ | exact hRo _) (by first | assumption | exact b01_r | exact bz_r | omega | (constructor <;> omega) | exact hM _ | exact hPo _ | exact hTa _ | exact hRo _) (by first | assumption | exact b01_r | exact bz_r | omega | (constructor <;> omega) | exact hM _ | exact hPo _ | exact hTa _ | exact hRo _) rfl ?_
    refine r_ireturn (pc := 86) .int dX11_told_86 rfl (by first | rfl | assumption) ?_
    exact ⟨by unfold toldV; rw [if_neg e_1_0, if_neg e_1_1, if_neg e_1_2, if_neg e_1_3, if_pos e_1_4], rfl⟩
  by_cases e_1_5 : k = 5
  · rw [e_1_5] at ho_1
    obtain rfl : off_1 = 86 := ho_1.symm.trans (by decide)
    obtain rfl : tgt_1 = 87 := by omega
    refine r_aload_n (pc := 87) dX11_told_87 rfl (by first | rfl | exact isRefV_rf _) ?_
    refine r_callV0 (pc := 88) dX11_told_88 qX11_readyOnes kX11_295 vX11_readyOnes (by exact isM.gx (by assumption)) rfl rfl (Nat.le_of_ble_eq_true rfl) (m_readyOnes (d + 1) hB0 hM hT hT2) (fun v_88 h_88 q_88 => ?_)
    obtain ⟨rfl, rfl⟩ := q_88
    refine r_ireturn (pc := 91) .int dX11_told_91 rfl (by first | rfl | assumption) ?_
    exact ⟨by unfold toldV; rw [if_neg e_1_0, if_neg e_1_1, if_neg e_1_2, if_neg e_1_3, if_neg e_1_4, if_pos e_1_5], rfl⟩
  by_cases e_1_6 : k = 6
  · rw [e_1_6] at ho_1
    obtain rfl : off_1 = 91 := ho_1.symm.trans (by decide)
    obtain rfl : tgt_1 = 92 := by omega
    refine r_aload_n (pc := 92) dX11_told_92 rfl (by first | rfl | exact isRefV_rf _) ?_
    refine rm_getf (pc := 93) dX11_told_93 fX11_11 (by assumption) rfl ?_
    refine rj_bipush (pc := 96) dX11_told_96 (by decide +kernel) ?_
    refine rj_iald (pc := 98) (j := 7) dX11_told_98 (by first | exact isM.g0 (by assumption) | exact isM.g3 (by assumption) | exact isM.g4 (by assumption) | exact isM.g8 (by assumption) | exact isM.g7 (by assumption) | exact isM.g6 (by assumption) | exact isM.g5 (by assumption) | exact isM.g1 (by assumption) | exact isM.g2 (by assumption)) (by first | assumption | exact b01_r | exact bz_r | omega | (constructor <;> omega) | exact hM _ | exact hPo _ | exact hTa _ | exact hRo _) (by first | assumption | exact b01_r | exact bz_r | omega | (constructor <;> omega) | exact hM _ | exact hPo _ | exact hTa _ | exact hRo _) (by first | assumption | exact b01_r | exact bz_r | omega | (constructor <;> omega) | exact hM _ | exact hPo _ | exact hTa _ | exact hRo _) rfl ?_
    refine r_ireturn (pc := 99) .int dX11_told_99 rfl (by first | rfl | assumption) ?_
    exact ⟨by unfold toldV; rw [if_neg e_1_0, if_neg e_1_1, if_neg e_1_2, if_neg e_1_3, if_neg e_1_4, if_neg e_1_5, if_pos e_1_6], rfl⟩
  by_cases e_1_7 : k = 7
  · rw [e_1_7] at ho_1
    obtain rfl : off_1 = 99 := ho_1.symm.trans (by decide)
    obtain rfl : tgt_1 = 100 := by omega
    refine r_aload_n (pc := 100) dX11_told_100 rfl (by first | rfl | exact isRefV_rf _) ?_
    refine rm_getf (pc := 101) dX11_told_101 fX11_11 (by assumption) rfl ?_
    refine rj_iconst (pc := 104) dX11_told_104 ?_
    refine rj_iald (pc := 105) (j := 2) dX11_told_105 (by first | exact isM.g0 (by assumption) | exact isM.g3 (by assumption) | exact isM.g4 (by assumption) | exact isM.g8 (by assumption) | exact isM.g7 (by assumption) | exact isM.g6 (by assumption) | exact isM.g5 (by assumption) | exact isM.g1 (by assumption) | exact isM.g2 (by assumption)) (by first | assumption | exact b01_r | exact bz_r | omega | (constructor <;> omega) | exact hM _ | exact hPo _ | exact hTa _ | exact hRo _) (by first | assumption | exact b01_r | exact bz_r | omega | (constructor <;> omega) | exact hM _ | exact hPo _ | exact hTa _ | exact hRo _) (by first | assumption | exact b01_r | exact bz_r | omega | (constructor <;> omega) | exact hM _ | exact hPo _ | exact hTa _ | exact hRo _) rfl ?_
    refine r_ireturn (pc := 106) .int dX11_told_106 rfl (by first | rfl | assumption) ?_
    exact ⟨by unfold toldV; rw [if_neg e_1_0, if_neg e_1_1, if_neg e_1_2, if_neg e_1_3, if_neg e_1_4, if_neg e_1_5, if_neg e_1_6, if_pos e_1_7], rfl⟩
  by_cases e_1_8 : k = 8
  · rw [e_1_8] at ho_1
    obtain rfl : off_1 = 106 := ho_1.symm.trans (by decide)
    obtain rfl : tgt_1 = 107 := by omega
    refine r_aload_n (pc := 107) dX11_told_107 rfl (by first | rfl | exact isRefV_rf _) ?_
    refine rm_getf (pc := 108) dX11_told_108 fX11_61 (by assumption) rfl ?_
    refine r_ireturn (pc := 111) .int dX11_told_111 rfl (by first | rfl | assumption) ?_
    exact ⟨by unfold toldV; rw [if_neg e_1_0, if_neg e_1_1, if_neg e_1_2, if_neg e_1_3, if_neg e_1_4, if_neg e_1_5, if_neg e_1_6, if_neg e_1_7, if_pos e_1_8], rfl⟩
  by_cases e_1_9 : k = 9
  · rw [e_1_9] at ho_1
    obtain rfl : off_1 = 111 := ho_1.symm.trans (by decide)
    obtain rfl : tgt_1 = 112 := by omega
    refine r_aload_n (pc := 112) dX11_told_112 rfl (by first | rfl | exact isRefV_rf _) ?_
    refine rm_getf (pc := 113) dX11_told_113 fX11_298 (by assumption) rfl ?_
    refine r_ireturn (pc := 116) .int dX11_told_116 rfl (by first | rfl | assumption) ?_
    exact ⟨by unfold toldV; rw [if_neg e_1_0, if_neg e_1_1, if_neg e_1_2, if_neg e_1_3, if_neg e_1_4, if_neg e_1_5, if_neg e_1_6, if_neg e_1_7, if_neg e_1_8, if_pos e_1_9], rfl⟩
  have eo_1 : off_1 = 116 := by
    rw [← ho_1]
    unfold tswOff
    rw [if_pos (by omega)]
  obtain rfl : tgt_1 = 117 := by omega
  refine rj_iconst (pc := 117) dX11_told_117 ?_
  refine r_ireturn (pc := 118) .int dX11_told_118 rfl (by first | rfl | assumption) ?_
  exact ⟨by unfold toldV; rw [if_neg e_1_0, if_neg e_1_1, if_neg e_1_2, if_neg e_1_3, if_neg e_1_4, if_neg e_1_5, if_neg e_1_6, if_neg e_1_7, if_neg e_1_8, if_neg e_1_9], rfl⟩
def nameV (m : Nat → Int) (t i : Int) : Int := if (0 ≤ t ∧ t ≤ m 1 - 1) ∧ (-1 ≤ i ∧ i ≤ m (261 + 14 * t).toNat - 1) then (if i < 0 then m (261 + 14 * t).toNat else m (265 + 14 * t + i).toNat) else -1
def lenOk (m : Nat → Int) : Prop := ∀ t : Int, 0 ≤ t → t ≤ m 1 - 1 → 0 ≤ m (261 + 14 * t).toNat ∧ m (261 + 14 * t).toNat ≤ 7
set_option maxHeartbeats 4000000 in
set_option maxRecDepth 100000 in
theorem m_name {G : mG} {l : Launch} (d : Nat) {h : mH} {x s : Nat} {f4 f6 f8 f9 f10 f11 f12 f13 f14 f16 f18 : Int} {m kp was pool tape pln pap rwd rw : Nat → Int}(hB : isM h x (mFs x f4 f6 f8 f9 f10 f11 f12 f13 f14 f16 f18 s) m kp was pool tape pln pap rwd rw) (hM : ∀ q, InR (m q)) (h1 : 0 ≤ m 1 ∧ m 1 ≤ 90) (hL : lenOk m) {t i : Int} (ht : InR t) (hi : InR i) : RUNM G l (d + 2) mX11_name [.ref x, .int (J t), .int (J i)] h (fun v h' => v = some (.int (J (nameV m t i))) ∧ h' = h) := by
  dsimp only [mFs] at hB
  refine RUNM.of (by decide +kernel) (Nat.le_of_ble_eq_true rfl) ?_
  refine r_aload_n (pc := 0) dX11_name_0 rfl (by first | rfl | exact isRefV_rf _) ?_
  refine r_iload_n (pc := 1) dX11_name_1 rfl ?_
  refine r_callV1 (pc := 2) dX11_name_2 qX11_isThing kX11_238 vX11_isThing (by exact isM.gx (by assumption)) rfl rfl (Nat.le_of_ble_eq_true rfl) (m_isThing d hB ht ⟨by omega, by omega⟩) (fun v_2 h_2 q_2 => ?_)
  obtain ⟨rfl, rfl⟩ := q_2
  refine rj_if_eq (pc := 5) (tgt := 29) dX11_name_5 (by decide) (by first | assumption | exact b01_r | exact bz_r | omega | (constructor <;> omega) | exact hM _ | exact hPo _ | exact hTa _ | exact hRo _) (fun c_5 => ?_) (fun c_5 => ?_)
  · try simp only [b01_0, bz_0, Classical.not_not] at c_5
    refine rj_iconst (pc := 29) dX11_name_29 ?_
    refine r_ireturn (pc := 30) .int dX11_name_30 rfl (by first | rfl | assumption) ?_
    first
    | exact ⟨by unfold nameV; rw [if_neg (fun g => c_5 g.1)], rfl⟩
    | exact ⟨by unfold nameV; rw [if_neg (fun g => c_26 g.2)], rfl⟩
    | exact ⟨by unfold nameV; rw [if_pos ⟨c_5, c_26⟩, if_neg (by omega)], rfl⟩
    | exact ⟨by unfold nameV; rw [if_pos ⟨c_5, c_26⟩, if_pos (by omega)], rfl⟩
  · try simp only [b01_0, bz_0, Classical.not_not] at c_5
    obtain ⟨l0, l7⟩ := hL t c_5.1 c_5.2
    refine r_iload_n (pc := 8) dX11_name_8 rfl ?_
    refine rj_iconst (pc := 9) dX11_name_9 ?_
    refine r_aload_n (pc := 10) dX11_name_10 rfl (by first | rfl | exact isRefV_rf _) ?_
    refine rm_getf (pc := 11) dX11_name_11 fX11_11 (by assumption) rfl ?_
    refine r_iload_n (pc := 14) dX11_name_14 rfl ?_
    refine rj_iconst (pc := 15) dX11_name_15 ?_
    refine rj_iconst (pc := 16) dX11_name_16 ?_
    refine r_callS3 (pc := 17) dX11_name_17 qX11_ofThing kX11_54 sX11_ofThing (Nat.le_of_ble_eq_true rfl) (m_ofThing (d + 1)) (fun v_17 h_17 q_17 => ?_)
    obtain ⟨rfl, rfl⟩ := q_17
    refine rj_iald (pc := 20) (j := (261 + 14 * t).toNat) dX11_name_20 (by first | exact isM.g0 (by assumption) | exact isM.g3 (by assumption) | exact isM.g4 (by assumption) | exact isM.g8 (by assumption) | exact isM.g7 (by assumption) | exact isM.g6 (by assumption) | exact isM.g5 (by assumption) | exact isM.g1 (by assumption) | exact isM.g2 (by assumption)) (by first | assumption | exact b01_r | exact bz_r | omega | (constructor <;> omega) | exact hM _ | exact hPo _ | exact hTa _ | exact hRo _) (by first | assumption | exact b01_r | exact bz_r | omega | (constructor <;> omega) | exact hM _ | exact hPo _ | exact hTa _ | exact hRo _) (by first | assumption | exact b01_r | exact bz_r | omega | (constructor <;> omega) | exact hM _ | exact hPo _ | exact hTa _ | exact hRo _) (by omega) ?_
    refine rj_iconst (pc := 21) dX11_name_21 ?_
    refine rj_isub (pc := 22) dX11_name_22 ?_
    refine r_callS3 (pc := 23) dX11_name_23 qX11_isIn kX11_46 sX11_isIn (Nat.le_of_ble_eq_true rfl) (m_isIn (d + 1) hi (by decide) ⟨by omega, by omega⟩) (fun v_23 h_23 q_23 => ?_)
    obtain ⟨rfl, rfl⟩ := q_23
    refine rj_if_ne (pc := 26) (tgt := 31) dX11_name_26 (by decide) (by first | assumption | exact b01_r | exact bz_r | omega | (constructor <;> omega) | exact hM _ | exact hPo _ | exact hTa _ | exact hRo _) (fun c_26 => ?_) (fun c_26 => ?_)
    · try simp only [b01_0, bz_0, Classical.not_not] at c_26
      refine r_iload_n (pc := 31) dX11_name_31 rfl ?_
      refine rj_if_ge (pc := 32) (tgt := 49) dX11_name_32 (by decide) (by first | assumption | exact b01_r | exact bz_r | omega | (constructor <;> omega) | exact hM _ | exact hPo _ | exact hTa _ | exact hRo _) (fun c_32 => ?_) (fun c_32 => ?_)
      · refine r_aload_n (pc := 49) dX11_name_49 rfl (by first | rfl | exact isRefV_rf _) ?_
        refine rm_getf (pc := 50) dX11_name_50 fX11_11 (by assumption) rfl ?_
        refine r_iload_n (pc := 53) dX11_name_53 rfl ?_
        refine rj_bipush (pc := 54) dX11_name_54 (by decide +kernel) ?_
        refine r_iload_n (pc := 56) dX11_name_56 rfl ?_
        refine r_callS3 (pc := 57) dX11_name_57 qX11_ofThing kX11_54 sX11_ofThing (Nat.le_of_ble_eq_true rfl) (m_ofThing (d + 1)) (fun v_57 h_57 q_57 => ?_)
        obtain ⟨rfl, rfl⟩ := q_57
        refine rj_iald (pc := 60) (j := (265 + 14 * t + i).toNat) dX11_name_60 (by first | exact isM.g0 (by assumption) | exact isM.g3 (by assumption) | exact isM.g4 (by assumption) | exact isM.g8 (by assumption) | exact isM.g7 (by assumption) | exact isM.g6 (by assumption) | exact isM.g5 (by assumption) | exact isM.g1 (by assumption) | exact isM.g2 (by assumption)) (by first | assumption | exact b01_r | exact bz_r | omega | (constructor <;> omega) | exact hM _ | exact hPo _ | exact hTa _ | exact hRo _) (by first | assumption | exact b01_r | exact bz_r | omega | (constructor <;> omega) | exact hM _ | exact hPo _ | exact hTa _ | exact hRo _) (by first | assumption | exact b01_r | exact bz_r | omega | (constructor <;> omega) | exact hM _ | exact hPo _ | exact hTa _ | exact hRo _) (by omega) ?_
        refine r_ireturn (pc := 61) .int dX11_name_61 rfl (by first | rfl | assumption) ?_
        first
        | exact ⟨by unfold nameV; rw [if_neg (fun g => c_5 g.1)], rfl⟩
        | exact ⟨by unfold nameV; rw [if_neg (fun g => c_26 g.2)], rfl⟩
        | exact ⟨by unfold nameV; rw [if_pos ⟨c_5, c_26⟩, if_neg (by omega)], rfl⟩
        | exact ⟨by unfold nameV; rw [if_pos ⟨c_5, c_26⟩, if_pos (by omega)], rfl⟩
      · refine r_aload_n (pc := 35) dX11_name_35 rfl (by first | rfl | exact isRefV_rf _) ?_
        refine rm_getf (pc := 36) dX11_name_36 fX11_11 (by assumption) rfl ?_
        refine r_iload_n (pc := 39) dX11_name_39 rfl ?_
        refine rj_iconst (pc := 40) dX11_name_40 ?_
        refine rj_iconst (pc := 41) dX11_name_41 ?_
        refine r_callS3 (pc := 42) dX11_name_42 qX11_ofThing kX11_54 sX11_ofThing (Nat.le_of_ble_eq_true rfl) (m_ofThing (d + 1)) (fun v_42 h_42 q_42 => ?_)
        obtain ⟨rfl, rfl⟩ := q_42
        refine rj_iald (pc := 45) (j := (261 + 14 * t).toNat) dX11_name_45 (by first | exact isM.g0 (by assumption) | exact isM.g3 (by assumption) | exact isM.g4 (by assumption) | exact isM.g8 (by assumption) | exact isM.g7 (by assumption) | exact isM.g6 (by assumption) | exact isM.g5 (by assumption) | exact isM.g1 (by assumption) | exact isM.g2 (by assumption)) (by first | assumption | exact b01_r | exact bz_r | omega | (constructor <;> omega) | exact hM _ | exact hPo _ | exact hTa _ | exact hRo _) (by first | assumption | exact b01_r | exact bz_r | omega | (constructor <;> omega) | exact hM _ | exact hPo _ | exact hTa _ | exact hRo _) (by first | assumption | exact b01_r | exact bz_r | omega | (constructor <;> omega) | exact hM _ | exact hPo _ | exact hTa _ | exact hRo _) (by omega) ?_
        refine r_goto (pc := 46) (tgt := 61) dX11_name_46 (by decide) ?_
        refine r_ireturn (pc := 61) .int dX11_name_61 rfl (by first | rfl | assumption) ?_
        first
        | exact ⟨by unfold nameV; rw [if_neg (fun g => c_5 g.1)], rfl⟩
        | exact ⟨by unfold nameV; rw [if_neg (fun g => c_26 g.2)], rfl⟩
        | exact ⟨by unfold nameV; rw [if_pos ⟨c_5, c_26⟩, if_neg (by omega)], rfl⟩
        | exact ⟨by unfold nameV; rw [if_pos ⟨c_5, c_26⟩, if_pos (by omega)], rfl⟩
    · try simp only [b01_0, bz_0, Classical.not_not] at c_26
      refine rj_iconst (pc := 29) dX11_name_29 ?_
      refine r_ireturn (pc := 30) .int dX11_name_30 rfl (by first | rfl | assumption) ?_
      first
      | exact ⟨by unfold nameV; rw [if_neg (fun g => c_5 g.1)], rfl⟩
      | exact ⟨by unfold nameV; rw [if_neg (fun g => c_26 g.2)], rfl⟩
      | exact ⟨by unfold nameV; rw [if_pos ⟨c_5, c_26⟩, if_neg (by omega)], rfl⟩
      | exact ⟨by unfold nameV; rw [if_pos ⟨c_5, c_26⟩, if_pos (by omega)], rfl⟩

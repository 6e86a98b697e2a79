/-! ===== contracts of the reference: the small ones ===== -/
set_option maxHeartbeats 4000000 in
set_option maxRecDepth 100000 in
theorem m_isIn {G : mG} {l : Launch} (d : Nat) {h : mH} {a b c : Int} (ha : InR a) (hb : InR b) (hc : InR c) : RUNM G l (d) mX11_isIn [.int (J a), .int (J b), .int (J c)] h (fun v h' => v = some (.int (J (b01 (b ≤ a ∧ a ≤ c)))) ∧ h' = h) := by
  refine RUNM.of (by decide +kernel) (Nat.le_of_ble_eq_true rfl) ?_
  refine r_iload_n (pc := 0) dX11_isIn_0 rfl ?_
  refine r_iload_n (pc := 1) dX11_isIn_1 rfl ?_
  refine rj_icmp_lt (pc := 2) (tgt := 14) dX11_isIn_2 (by decide) (by first | assumption | exact b01_r | exact bz_r | omega | (constructor <;> omega) | exact hM _ | exact hPo _ | exact hTa _ | exact hRo _) (by first | assumption | exact b01_r | exact bz_r | omega | (constructor <;> omega) | exact hM _ | exact hPo _ | exact hTa _ | exact hRo _) (fun c_2 => ?_) (fun c_2 => ?_)
  · refine rj_iconst (pc := 14) dX11_isIn_14 ?_
    refine r_ireturn (pc := 15) .boolean dX11_isIn_15 rfl (by first | exact nar_J0 | exact nar_J1 | exact nar_b01 | exact nar_bz) ?_
    first
    | exact ⟨rfl, rfl⟩
    | exact ⟨vf (by omega), rfl⟩
    | exact ⟨vt (by omega), rfl⟩
  · refine r_iload_n (pc := 5) dX11_isIn_5 rfl ?_
    refine r_iload_n (pc := 6) dX11_isIn_6 rfl ?_
    refine rj_icmp_gt (pc := 7) (tgt := 14) dX11_isIn_7 (by decide) (by first | assumption | exact b01_r | exact bz_r | omega | (constructor <;> omega) | exact hM _ | exact hPo _ | exact hTa _ | exact hRo _) (by first | assumption | exact b01_r | exact bz_r | omega | (constructor <;> omega) | exact hM _ | exact hPo _ | exact hTa _ | exact hRo _) (fun c_7 => ?_) (fun c_7 => ?_)
    · refine rj_iconst (pc := 14) dX11_isIn_14 ?_
      refine r_ireturn (pc := 15) .boolean dX11_isIn_15 rfl (by first | exact nar_J0 | exact nar_J1 | exact nar_b01 | exact nar_bz) ?_
      first
      | exact ⟨rfl, rfl⟩
      | exact ⟨vf (by omega), rfl⟩
      | exact ⟨vt (by omega), rfl⟩
    · refine rj_iconst (pc := 10) dX11_isIn_10 ?_
      refine r_goto (pc := 11) (tgt := 15) dX11_isIn_11 (by decide) ?_
      refine r_ireturn (pc := 15) .boolean dX11_isIn_15 rfl (by first | exact nar_J0 | exact nar_J1 | exact nar_b01 | exact nar_bz) ?_
      first
      | exact ⟨rfl, rfl⟩
      | exact ⟨vf (by omega), rfl⟩
      | exact ⟨vt (by omega), rfl⟩
set_option maxHeartbeats 4000000 in
set_option maxRecDepth 100000 in
theorem m_ofScope {G : mG} {l : Launch} (d : Nat) {h : mH} {a b : Int} : RUNM G l (d) mX11_ofScope [.int (J a), .int (J b)] h (fun v h' => v = some (.int (J (18 + 4 * a + b))) ∧ h' = h) := by
  refine RUNM.of (by decide +kernel) (Nat.le_of_ble_eq_true rfl) ?_
  refine rj_bipush (pc := 0) dX11_ofScope_0 (by decide +kernel) ?_
  refine rj_iconst (pc := 2) dX11_ofScope_2 ?_
  refine r_iload_n (pc := 3) dX11_ofScope_3 rfl ?_
  refine rj_imul (pc := 4) dX11_ofScope_4 ?_
  refine rj_iadd (pc := 5) dX11_ofScope_5 ?_
  refine r_iload_n (pc := 6) dX11_ofScope_6 rfl ?_
  refine rj_iadd (pc := 7) dX11_ofScope_7 ?_
  refine r_ireturn (pc := 8) .int dX11_ofScope_8 rfl (by first | rfl | assumption) ?_
  exact ⟨by first | rfl | (congr 3; omega), rfl⟩
set_option maxHeartbeats 4000000 in
set_option maxRecDepth 100000 in
theorem m_ofThing {G : mG} {l : Launch} (d : Nat) {h : mH} {a b c : Int} : RUNM G l (d) mX11_ofThing [.int (J a), .int (J b), .int (J c)] h (fun v h' => v = some (.int (J (258 + 14 * a + b + c))) ∧ h' = h) := by
  refine RUNM.of (by decide +kernel) (Nat.le_of_ble_eq_true rfl) ?_
  refine rj_sipush (pc := 0) dX11_ofThing_0 (by decide +kernel) ?_
  refine rj_bipush (pc := 3) dX11_ofThing_3 (by decide +kernel) ?_
  refine r_iload_n (pc := 5) dX11_ofThing_5 rfl ?_
  refine rj_imul (pc := 6) dX11_ofThing_6 ?_
  refine rj_iadd (pc := 7) dX11_ofThing_7 ?_
  refine r_iload_n (pc := 8) dX11_ofThing_8 rfl ?_
  refine rj_iadd (pc := 9) dX11_ofThing_9 ?_
  refine r_iload_n (pc := 10) dX11_ofThing_10 rfl ?_
  refine rj_iadd (pc := 11) dX11_ofThing_11 ?_
  refine r_ireturn (pc := 12) .int dX11_ofThing_12 rfl (by first | rfl | assumption) ?_
  exact ⟨by first | rfl | (congr 3; omega), rfl⟩
set_option maxHeartbeats 4000000 in
set_option maxRecDepth 100000 in
theorem m_ofTask {G : mG} {l : Launch} (d : Nat) {h : mH} {a b c : Int} : RUNM G l (d) mX11_ofTask [.int (J a), .int (J b), .int (J c)] h (fun v h' => v = some (.int (J (1608 + 72 * a + b + c))) ∧ h' = h) := by
  refine RUNM.of (by decide +kernel) (Nat.le_of_ble_eq_true rfl) ?_
  refine rj_sipush (pc := 0) dX11_ofTask_0 (by decide +kernel) ?_
  refine rj_bipush (pc := 3) dX11_ofTask_3 (by decide +kernel) ?_
  refine r_iload_n (pc := 5) dX11_ofTask_5 rfl ?_
  refine rj_imul (pc := 6) dX11_ofTask_6 ?_
  refine rj_iadd (pc := 7) dX11_ofTask_7 ?_
  refine r_iload_n (pc := 8) dX11_ofTask_8 rfl ?_
  refine rj_iadd (pc := 9) dX11_ofTask_9 ?_
  refine r_iload_n (pc := 10) dX11_ofTask_10 rfl ?_
  refine rj_iadd (pc := 11) dX11_ofTask_11 ?_
  refine r_ireturn (pc := 12) .int dX11_ofTask_12 rfl (by first | rfl | assumption) ?_
  exact ⟨by first | rfl | (congr 3; omega), rfl⟩
set_option maxHeartbeats 4000000 in
set_option maxRecDepth 100000 in
theorem m_isScope {G : mG} {l : Launch} (d : Nat) {h : mH} {x s : Nat} {f4 f6 f8 f9 f10 f11 f12 f13 f14 f16 f18 : Int} {m kp was pool tape pln pap rwd rw : Nat → Int}(hB : isM h x (mFs x f4 f6 f8 f9 f10 f11 f12 f13 f14 f16 f18 s) m kp was pool tape pln pap rwd rw) {a : Int} (ha : InR a) (hM : InR (m 0 - 1)) : RUNM G l (d + 1) mX11_isScope [.ref x, .int (J a)] h (fun v h' => v = some (.int (J (b01 (0 ≤ a ∧ a ≤ m 0 - 1)))) ∧ h' = h) := by
  dsimp only [mFs] at hB
  refine RUNM.of (by decide +kernel) (Nat.le_of_ble_eq_true rfl) ?_
  refine r_iload_n (pc := 0) dX11_isScope_0 rfl ?_
  refine rj_iconst (pc := 1) dX11_isScope_1 ?_
  refine r_aload_n (pc := 2) dX11_isScope_2 rfl (by first | rfl | exact isRefV_rf _) ?_
  refine rm_getf (pc := 3) dX11_isScope_3 fX11_11 (by assumption) rfl ?_
  refine rj_iconst (pc := 6) dX11_isScope_6 ?_
  refine rj_iald (pc := 7) (j := 0) dX11_isScope_7 (by first | exact isM.g0 (by assumption) | exact isM.g3 (by assumption) | exact isM.g4 (by assumption) | exact isM.g8 (by assumption) | exact isM.g7 (by assumption) | exact isM.g6 (by assumption) | exact isM.g5 (by assumption) | exact isM.g1 (by assumption) | exact isM.g2 (by assumption)) (by first | assumption | exact b01_r | exact bz_r | omega | (constructor <;> omega) | exact hM _ | exact hPo _ | exact hTa _ | exact hRo _) (by first | assumption | exact b01_r | exact bz_r | omega | (constructor <;> omega) | exact hM _ | exact hPo _ | exact hTa _ | exact hRo _) (by first | assumption | exact b01_r | exact bz_r | omega | (constructor <;> omega) | exact hM _ | exact hPo _ | exact hTa _ | exact hRo _) rfl ?_
  refine rj_iconst (pc := 8) dX11_isScope_8 ?_
  refine rj_isub (pc := 9) dX11_isScope_9 ?_
  refine r_callS3 (pc := 10) dX11_isScope_10 qX11_isIn kX11_46 sX11_isIn (Nat.le_of_ble_eq_true rfl) (m_isIn d ha (by decide) hM) (fun v_10 h_10 q_10 => ?_)
  obtain ⟨rfl, rfl⟩ := q_10
  refine r_ireturn (pc := 13) .boolean dX11_isScope_13 rfl (by first | exact nar_J0 | exact nar_J1 | exact nar_b01 | exact nar_bz) ?_
  first
  | exact ⟨rfl, rfl⟩
  | exact ⟨vf (by omega), rfl⟩
  | exact ⟨vt (by omega), rfl⟩
set_option maxHeartbeats 4000000 in
set_option maxRecDepth 100000 in
theorem m_isThing {G : mG} {l : Launch} (d : Nat) {h : mH} {x s : Nat} {f4 f6 f8 f9 f10 f11 f12 f13 f14 f16 f18 : Int} {m kp was pool tape pln pap rwd rw : Nat → Int}(hB : isM h x (mFs x f4 f6 f8 f9 f10 f11 f12 f13 f14 f16 f18 s) m kp was pool tape pln pap rwd rw) {a : Int} (ha : InR a) (hM : InR (m 1 - 1)) : RUNM G l (d + 1) mX11_isThing [.ref x, .int (J a)] h (fun v h' => v = some (.int (J (b01 (0 ≤ a ∧ a ≤ m 1 - 1)))) ∧ h' = h) := by
  dsimp only [mFs] at hB
  refine RUNM.of (by decide +kernel) (Nat.le_of_ble_eq_true rfl) ?_
  refine r_iload_n (pc := 0) dX11_isThing_0 rfl ?_
  refine rj_iconst (pc := 1) dX11_isThing_1 ?_
  refine r_aload_n (pc := 2) dX11_isThing_2 rfl (by first | rfl | exact isRefV_rf _) ?_
  refine rm_getf (pc := 3) dX11_isThing_3 fX11_11 (by assumption) rfl ?_
  refine rj_iconst (pc := 6) dX11_isThing_6 ?_
  refine rj_iald (pc := 7) (j := 1) dX11_isThing_7 (by first | exact isM.g0 (by assumption) | exact isM.g3 (by assumption) | exact isM.g4 (by assumption) | exact isM.g8 (by assumption) | exact isM.g7 (by assumption) | exact isM.g6 (by assumption) | exact isM.g5 (by assumption) | exact isM.g1 (by assumption) | exact isM.g2 (by assumption)) (by first | assumption | exact b01_r | exact bz_r | omega | (constructor <;> omega) | exact hM _ | exact hPo _ | exact hTa _ | exact hRo _) (by first | assumption | exact b01_r | exact bz_r | omega | (constructor <;> omega) | exact hM _ | exact hPo _ | exact hTa _ | exact hRo _) (by first | assumption | exact b01_r | exact bz_r | omega | (constructor <;> omega) | exact hM _ | exact hPo _ | exact hTa _ | exact hRo _) rfl ?_
  refine rj_iconst (pc := 8) dX11_isThing_8 ?_
  refine rj_isub (pc := 9) dX11_isThing_9 ?_
  refine r_callS3 (pc := 10) dX11_isThing_10 qX11_isIn kX11_46 sX11_isIn (Nat.le_of_ble_eq_true rfl) (m_isIn d ha (by decide) hM) (fun v_10 h_10 q_10 => ?_)
  obtain ⟨rfl, rfl⟩ := q_10
  refine r_ireturn (pc := 13) .boolean dX11_isThing_13 rfl (by first | exact nar_J0 | exact nar_J1 | exact nar_b01 | exact nar_bz) ?_
  first
  | exact ⟨rfl, rfl⟩
  | exact ⟨vf (by omega), rfl⟩
  | exact ⟨vt (by omega), rfl⟩
set_option maxHeartbeats 4000000 in
set_option maxRecDepth 100000 in
theorem m_isTask {G : mG} {l : Launch} (d : Nat) {h : mH} {x s : Nat} {f4 f6 f8 f9 f10 f11 f12 f13 f14 f16 f18 : Int} {m kp was pool tape pln pap rwd rw : Nat → Int}(hB : isM h x (mFs x f4 f6 f8 f9 f10 f11 f12 f13 f14 f16 f18 s) m kp was pool tape pln pap rwd rw) {a : Int} (ha : InR a) (hM : InR (m 3 - 1)) : RUNM G l (d + 1) mX11_isTask [.ref x, .int (J a)] h (fun v h' => v = some (.int (J (b01 (0 ≤ a ∧ a ≤ m 3 - 1)))) ∧ h' = h) := by
  dsimp only [mFs] at hB
  refine RUNM.of (by decide +kernel) (Nat.le_of_ble_eq_true rfl) ?_
  refine r_iload_n (pc := 0) dX11_isTask_0 rfl ?_
  refine rj_iconst (pc := 1) dX11_isTask_1 ?_
  refine r_aload_n (pc := 2) dX11_isTask_2 rfl (by first | rfl | exact isRefV_rf _) ?_
  refine rm_getf (pc := 3) dX11_isTask_3 fX11_11 (by assumption) rfl ?_
  refine rj_iconst (pc := 6) dX11_isTask_6 ?_
  refine rj_iald (pc := 7) (j := 3) dX11_isTask_7 (by first | exact isM.g0 (by assumption) | exact isM.g3 (by assumption) | exact isM.g4 (by assumption) | exact isM.g8 (by assumption) | exact isM.g7 (by assumption) | exact isM.g6 (by assumption) | exact isM.g5 (by assumption) | exact isM.g1 (by assumption) | exact isM.g2 (by assumption)) (by first | assumption | exact b01_r | exact bz_r | omega | (constructor <;> omega) | exact hM _ | exact hPo _ | exact hTa _ | exact hRo _) (by first | assumption | exact b01_r | exact bz_r | omega | (constructor <;> omega) | exact hM _ | exact hPo _ | exact hTa _ | exact hRo _) (by first | assumption | exact b01_r | exact bz_r | omega | (constructor <;> omega) | exact hM _ | exact hPo _ | exact hTa _ | exact hRo _) rfl ?_
  refine rj_iconst (pc := 8) dX11_isTask_8 ?_
  refine rj_isub (pc := 9) dX11_isTask_9 ?_
  refine r_callS3 (pc := 10) dX11_isTask_10 qX11_isIn kX11_46 sX11_isIn (Nat.le_of_ble_eq_true rfl) (m_isIn d ha (by decide) hM) (fun v_10 h_10 q_10 => ?_)
  obtain ⟨rfl, rfl⟩ := q_10
  refine r_ireturn (pc := 13) .boolean dX11_isTask_13 rfl (by first | exact nar_J0 | exact nar_J1 | exact nar_b01 | exact nar_bz) ?_
  first
  | exact ⟨rfl, rfl⟩
  | exact ⟨vf (by omega), rfl⟩
  | exact ⟨vt (by omega), rfl⟩
set_option maxHeartbeats 4000000 in
set_option maxRecDepth 100000 in
theorem m_isOpen {G : mG} {l : Launch} (d : Nat) {h : mH} {x s : Nat} {f4 f6 f8 f9 f10 f11 f12 f13 f14 f16 f18 : Int} {m kp was pool tape pln pap rwd rw : Nat → Int}(hB : isM h x (mFs x f4 f6 f8 f9 f10 f11 f12 f13 f14 f16 f18 s) m kp was pool tape pln pap rwd rw) (hM : ∀ q, InR (m q)) (h0 : 0 ≤ m 0 ∧ m 0 ≤ 60) {a : Int} (ha : InR a) : RUNM G l (d + 2) mX11_isOpen [.ref x, .int (J a)] h (fun v h' => v = some (.int (J (b01 (0 ≤ a ∧ a ≤ m 0 - 1 ∧ m (18 + 4 * a).toNat = 0)))) ∧ h' = h) := by
  dsimp only [mFs] at hB
  refine RUNM.of (by decide +kernel) (Nat.le_of_ble_eq_true rfl) ?_
  have r0 := hM 0
  refine r_aload_n (pc := 0) dX11_isOpen_0 rfl (by first | rfl | exact isRefV_rf _) ?_
  refine r_iload_n (pc := 1) dX11_isOpen_1 rfl ?_
  refine r_callV1 (pc := 2) dX11_isOpen_2 qX11_isScope kX11_50 vX11_isScope (by exact isM.gx (by assumption)) rfl rfl (Nat.le_of_ble_eq_true rfl) (m_isScope d hB ha ⟨by omega, by omega⟩) (fun v_2 h_2 q_2 => ?_)
  obtain ⟨rfl, rfl⟩ := q_2
  refine rj_if_eq (pc := 5) (tgt := 25) dX11_isOpen_5 (by decide) (by first | assumption | exact b01_r | exact bz_r | omega | (constructor <;> omega) | exact hM _ | exact hPo _ | exact hTa _ | exact hRo _) (fun c_5 => ?_) (fun c_5 => ?_)
  · try simp only [b01_0, bz_0, Classical.not_not] at c_5
    refine rj_iconst (pc := 25) dX11_isOpen_25 ?_
    refine r_ireturn (pc := 26) .boolean dX11_isOpen_26 rfl (by first | exact nar_J0 | exact nar_J1 | exact nar_b01 | exact nar_bz) ?_
    first
    | exact ⟨rfl, rfl⟩
    | exact ⟨vf (by omega), rfl⟩
    | exact ⟨vt (by omega), rfl⟩
  · try simp only [b01_0, bz_0, Classical.not_not] at c_5
    refine r_aload_n (pc := 8) dX11_isOpen_8 rfl (by first | rfl | exact isRefV_rf _) ?_
    refine rm_getf (pc := 9) dX11_isOpen_9 fX11_11 (by assumption) rfl ?_
    refine r_iload_n (pc := 12) dX11_isOpen_12 rfl ?_
    refine rj_iconst (pc := 13) dX11_isOpen_13 ?_
    refine r_callS2 (pc := 14) dX11_isOpen_14 qX11_ofScope kX11_42 sX11_ofScope (Nat.le_of_ble_eq_true rfl) (m_ofScope (d + 1)) (fun v_14 h_14 q_14 => ?_)
    obtain ⟨rfl, rfl⟩ := q_14
    refine rj_iald (pc := 17) dX11_isOpen_17 (by first | exact isM.g0 (by assumption) | exact isM.g3 (by assumption) | exact isM.g4 (by assumption) | exact isM.g8 (by assumption) | exact isM.g7 (by assumption) | exact isM.g6 (by assumption) | exact isM.g5 (by assumption) | exact isM.g1 (by assumption) | exact isM.g2 (by assumption)) (by first | assumption | exact b01_r | exact bz_r | omega | (constructor <;> omega) | exact hM _ | exact hPo _ | exact hTa _ | exact hRo _) (by first | assumption | exact b01_r | exact bz_r | omega | (constructor <;> omega) | exact hM _ | exact hPo _ | exact hTa _ | exact hRo _) (by first | assumption | exact b01_r | exact bz_r | omega | (constructor <;> omega) | exact hM _ | exact hPo _ | exact hTa _ | exact hRo _) rfl ?_
    rw [Int.add_zero]
    refine rj_if_ne (pc := 18) (tgt := 25) dX11_isOpen_18 (by decide) (by first | assumption | exact b01_r | exact bz_r | omega | (constructor <;> omega) | exact hM _ | exact hPo _ | exact hTa _ | exact hRo _) (fun c_18 => ?_) (fun c_18 => ?_)
    · try simp only [b01_0, bz_0, Classical.not_not] at c_18
      refine rj_iconst (pc := 25) dX11_isOpen_25 ?_
      refine r_ireturn (pc := 26) .boolean dX11_isOpen_26 rfl (by first | exact nar_J0 | exact nar_J1 | exact nar_b01 | exact nar_bz) ?_
      first
      | exact ⟨rfl, rfl⟩
      | exact ⟨vf (by omega), rfl⟩
      | exact ⟨vt (by omega), rfl⟩
    · try simp only [b01_0, bz_0, Classical.not_not] at c_18
      refine rj_iconst (pc := 21) dX11_isOpen_21 ?_
      refine r_goto (pc := 22) (tgt := 26) dX11_isOpen_22 (by decide) ?_
      refine r_ireturn (pc := 26) .boolean dX11_isOpen_26 rfl (by first | exact nar_J0 | exact nar_J1 | exact nar_b01 | exact nar_bz) ?_
      first
      | exact ⟨rfl, rfl⟩
      | exact ⟨vf (by omega), rfl⟩
      | exact ⟨vt (by omega), rfl⟩
set_option maxHeartbeats 4000000 in
set_option maxRecDepth 100000 in
theorem m_isHeld {G : mG} {l : Launch} (d : Nat) {h : mH} {x s : Nat} {f4 f6 f8 f9 f10 f11 f12 f13 f14 f16 f18 : Int} {m kp was pool tape pln pap rwd rw : Nat → Int}(hB : isM h x (mFs x f4 f6 f8 f9 f10 f11 f12 f13 f14 f16 f18 s) m kp was pool tape pln pap rwd rw) (hM : ∀ q, InR (m q)) {a : Int} (h0 : 0 ≤ a) (h1 : a ≤ 89) : RUNM G l (d + 1) mX11_isHeld [.ref x, .int (J a)] h (fun v h' => v = some (.int (J (b01 (m (258 + 14 * a).toNat = 0)))) ∧ h' = h) := by
  dsimp only [mFs] at hB
  refine RUNM.of (by decide +kernel) (Nat.le_of_ble_eq_true rfl) ?_
  refine r_aload_n (pc := 0) dX11_isHeld_0 rfl (by first | rfl | exact isRefV_rf _) ?_
  refine rm_getf (pc := 1) dX11_isHeld_1 fX11_11 (by assumption) rfl ?_
  refine r_iload_n (pc := 4) dX11_isHeld_4 rfl ?_
  refine rj_iconst (pc := 5) dX11_isHeld_5 ?_
  refine rj_iconst (pc := 6) dX11_isHeld_6 ?_
  refine r_callS3 (pc := 7) dX11_isHeld_7 qX11_ofThing kX11_54 sX11_ofThing (Nat.le_of_ble_eq_true rfl) (m_ofThing d) (fun v_7 h_7 q_7 => ?_)
  obtain ⟨rfl, rfl⟩ := q_7
  refine rj_iald (pc := 10) dX11_isHeld_10 (by first | exact isM.g0 (by assumption) | exact isM.g3 (by assumption) | exact isM.g4 (by assumption) | exact isM.g8 (by assumption) | exact isM.g7 (by assumption) | exact isM.g6 (by assumption) | exact isM.g5 (by assumption) | exact isM.g1 (by assumption) | exact isM.g2 (by assumption)) (by first | assumption | exact b01_r | exact bz_r | omega | (constructor <;> omega) | exact hM _ | exact hPo _ | exact hTa _ | exact hRo _) (by first | assumption | exact b01_r | exact bz_r | omega | (constructor <;> omega) | exact hM _ | exact hPo _ | exact hTa _ | exact hRo _) (by first | assumption | exact b01_r | exact bz_r | omega | (constructor <;> omega) | exact hM _ | exact hPo _ | exact hTa _ | exact hRo _) rfl ?_
  rw [Int.add_zero, Int.add_zero]
  refine rj_if_ne (pc := 11) (tgt := 18) dX11_isHeld_11 (by decide) (by first | assumption | exact b01_r | exact bz_r | omega | (constructor <;> omega) | exact hM _ | exact hPo _ | exact hTa _ | exact hRo _) (fun c_11 => ?_) (fun c_11 => ?_)
  · try simp only [b01_0, bz_0, Classical.not_not] at c_11
    refine rj_iconst (pc := 18) dX11_isHeld_18 ?_
    refine r_ireturn (pc := 19) .boolean dX11_isHeld_19 rfl (by first | exact nar_J0 | exact nar_J1 | exact nar_b01 | exact nar_bz) ?_
    first
    | exact ⟨rfl, rfl⟩
    | exact ⟨vf (by omega), rfl⟩
    | exact ⟨vt (by omega), rfl⟩
  · try simp only [b01_0, bz_0, Classical.not_not] at c_11
    refine rj_iconst (pc := 14) dX11_isHeld_14 ?_
    refine r_goto (pc := 15) (tgt := 19) dX11_isHeld_15 (by decide) ?_
    refine r_ireturn (pc := 19) .boolean dX11_isHeld_19 rfl (by first | exact nar_J0 | exact nar_J1 | exact nar_b01 | exact nar_bz) ?_
    first
    | exact ⟨rfl, rfl⟩
    | exact ⟨vf (by omega), rfl⟩
    | exact ⟨vt (by omega), rfl⟩
set_option maxHeartbeats 4000000 in
set_option maxRecDepth 100000 in
theorem m_isReady {G : mG} {l : Launch} (d : Nat) {h : mH} {x s : Nat} {f4 f6 f8 f9 f10 f11 f12 f13 f14 f16 f18 : Int} {m kp was pool tape pln pap rwd rw : Nat → Int}(hB : isM h x (mFs x f4 f6 f8 f9 f10 f11 f12 f13 f14 f16 f18 s) m kp was pool tape pln pap rwd rw) (hM : ∀ q, InR (m q)) {a : Int} (h0 : 0 ≤ a) (h1 : a ≤ 9) : RUNM G l (d + 1) mX11_isReady [.ref x, .int (J a)] h (fun v h' => v = some (.int (J (b01 (m (1610 + 72 * a).toNat = 0)))) ∧ h' = h) := by
  dsimp only [mFs] at hB
  refine RUNM.of (by decide +kernel) (Nat.le_of_ble_eq_true rfl) ?_
  refine r_aload_n (pc := 0) dX11_isReady_0 rfl (by first | rfl | exact isRefV_rf _) ?_
  refine rm_getf (pc := 1) dX11_isReady_1 fX11_11 (by assumption) rfl ?_
  refine r_iload_n (pc := 4) dX11_isReady_4 rfl ?_
  refine rj_iconst (pc := 5) dX11_isReady_5 ?_
  refine rj_iconst (pc := 6) dX11_isReady_6 ?_
  refine r_callS3 (pc := 7) dX11_isReady_7 qX11_ofTask kX11_58 sX11_ofTask (Nat.le_of_ble_eq_true rfl) (m_ofTask d) (fun v_7 h_7 q_7 => ?_)
  obtain ⟨rfl, rfl⟩ := q_7
  refine rj_iald (pc := 10) dX11_isReady_10 (by first | exact isM.g0 (by assumption) | exact isM.g3 (by assumption) | exact isM.g4 (by assumption) | exact isM.g8 (by assumption) | exact isM.g7 (by assumption) | exact isM.g6 (by assumption) | exact isM.g5 (by assumption) | exact isM.g1 (by assumption) | exact isM.g2 (by assumption)) (by first | assumption | exact b01_r | exact bz_r | omega | (constructor <;> omega) | exact hM _ | exact hPo _ | exact hTa _ | exact hRo _) (by first | assumption | exact b01_r | exact bz_r | omega | (constructor <;> omega) | exact hM _ | exact hPo _ | exact hTa _ | exact hRo _) (by first | assumption | exact b01_r | exact bz_r | omega | (constructor <;> omega) | exact hM _ | exact hPo _ | exact hTa _ | exact hRo _) rfl ?_
  rw [Int.add_zero, show (1608 + 72 * a + 2 : Int) = 1610 + 72 * a by omega]
  refine rj_if_ne (pc := 11) (tgt := 18) dX11_isReady_11 (by decide) (by first | assumption | exact b01_r | exact bz_r | omega | (constructor <;> omega) | exact hM _ | exact hPo _ | exact hTa _ | exact hRo _) (fun c_11 => ?_) (fun c_11 => ?_)
  · try simp only [b01_0, bz_0, Classical.not_not] at c_11
    refine rj_iconst (pc := 18) dX11_isReady_18 ?_
    refine r_ireturn (pc := 19) .boolean dX11_isReady_19 rfl (by first | exact nar_J0 | exact nar_J1 | exact nar_b01 | exact nar_bz) ?_
    first
    | exact ⟨rfl, rfl⟩
    | exact ⟨vf (by omega), rfl⟩
    | exact ⟨vt (by omega), rfl⟩
  · try simp only [b01_0, bz_0, Classical.not_not] at c_11
    refine rj_iconst (pc := 14) dX11_isReady_14 ?_
    refine r_goto (pc := 15) (tgt := 19) dX11_isReady_15 (by decide) ?_
    refine r_ireturn (pc := 19) .boolean dX11_isReady_19 rfl (by first | exact nar_J0 | exact nar_J1 | exact nar_b01 | exact nar_bz) ?_
    first
    | exact ⟨rfl, rfl⟩
    | exact ⟨vf (by omega), rfl⟩
    | exact ⟨vt (by omega), rfl⟩

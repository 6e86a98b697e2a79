/-! ===== contracts of the reference: some of the face ===== -/
set_option maxHeartbeats 4000000 in
set_option maxRecDepth 100000 in
theorem m_isRow {G : mG} {l : Launch} (d : Nat) {h : mH} {a : Int} (ha : InR a) : RUNM G l (d + 1) mX11_isRow [.int (J a)] h (fun v h' => v = some (.int (J (b01 (0 ≤ a ∧ a ≤ 3)))) ∧ h' = h) := by
  refine RUNM.of (by decide +kernel) (Nat.le_of_ble_eq_true rfl) ?_
  refine r_iload_n (pc := 0) dX11_isRow_0 rfl ?_
  refine rj_iconst (pc := 1) dX11_isRow_1 ?_
  refine rj_iconst (pc := 2) dX11_isRow_2 ?_
  refine r_callS3 (pc := 3) dX11_isRow_3 qX11_isIn kX11_46 sX11_isIn (Nat.le_of_ble_eq_true rfl) (m_isIn d ha (by decide) (by decide)) (fun v_3 h_3 q_3 => ?_)
  obtain ⟨rfl, rfl⟩ := q_3
  refine r_ireturn (pc := 6) .boolean dX11_isRow_6 rfl (by first | exact nar_J0 | exact nar_J1 | exact nar_b01 | exact nar_bz) ?_
  first
  | exact ⟨rfl, rfl⟩
  | exact ⟨vf (by omega), rfl⟩
  | exact ⟨vt (by omega), rfl⟩
def wrongV (rwd : Nat → Int) (a : Int) : Int := if 0 ≤ a ∧ a ≤ 3 then (if rwd a.toNat < 0 then -11 else 0) else -1
theorem wrong_r {rwd : Nat → Int} {a : Int} : InR (wrongV rwd a) := by unfold wrongV; split <;> (try split) <;> decide
set_option maxHeartbeats 4000000 in
set_option maxRecDepth 100000 in
theorem m_wrong {G : mG} {l : Launch} (d : Nat) {h : mH} {x s : Nat} {f4 f6 f8 f9 f10 f11 f12 f13 f14 f16 f18 : Int} {m kp was pool tape pln pap rwd rw : Nat → Int}(hB : isM h x (mFs x f4 f6 f8 f9 f10 f11 f12 f13 f14 f16 f18 s) m kp was pool tape pln pap rwd rw) (hRo : ∀ q, InR (rwd q)) {a : Int} (ha : InR a) : RUNM G l (d + 2) mX11_wrong [.ref x, .int (J a)] h (fun v h' => v = some (.int (J (wrongV rwd a))) ∧ h' = h) := by
  dsimp only [mFs] at hB
  refine RUNM.of (by decide +kernel) (Nat.le_of_ble_eq_true rfl) ?_
  refine r_iload_n (pc := 0) dX11_wrong_0 rfl ?_
  refine r_callS1 (pc := 1) dX11_wrong_1 qX11_isRow kX11_304 sX11_isRow (Nat.le_of_ble_eq_true rfl) (m_isRow d ha) (fun v_1 h_1 q_1 => ?_)
  obtain ⟨rfl, rfl⟩ := q_1
  refine rj_if_ne (pc := 4) (tgt := 11) dX11_wrong_4 (by decide) (by first | assumption | exact b01_r | exact bz_r | omega | (constructor <;> omega) | exact hM _ | exact hPo _ | exact hTa _ | exact hRo _) (fun c_4 => ?_) (fun c_4 => ?_)
  · try simp only [b01_0, bz_0, Classical.not_not] at c_4
    refine r_aload_n (pc := 11) dX11_wrong_11 rfl (by first | rfl | exact isRefV_rf _) ?_
    refine rm_getf (pc := 12) dX11_wrong_12 fX11_36 (by assumption) rfl ?_
    refine r_iload_n (pc := 15) dX11_wrong_15 rfl ?_
    refine rj_iald (pc := 16) dX11_wrong_16 (by first | exact isM.g0 (by assumption) | exact isM.g3 (by assumption) | exact isM.g4 (by assumption) | exact isM.g8 (by assumption) | exact isM.g7 (by assumption) | exact isM.g6 (by assumption) | exact isM.g5 (by assumption) | exact isM.g1 (by assumption) | exact isM.g2 (by assumption)) (by first | assumption | exact b01_r | exact bz_r | omega | (constructor <;> omega) | exact hM _ | exact hPo _ | exact hTa _ | exact hRo _) (by first | assumption | exact b01_r | exact bz_r | omega | (constructor <;> omega) | exact hM _ | exact hPo _ | exact hTa _ | exact hRo _) (by first | assumption | exact b01_r | exact bz_r | omega | (constructor <;> omega) | exact hM _ | exact hPo _ | exact hTa _ | exact hRo _) rfl ?_
    refine rj_if_ge (pc := 17) (tgt := 25) dX11_wrong_17 (by decide) (by first | assumption | exact b01_r | exact bz_r | omega | (constructor <;> omega) | exact hM _ | exact hPo _ | exact hTa _ | exact hRo _) (fun c_17 => ?_) (fun c_17 => ?_)
    · refine rj_iconst (pc := 25) dX11_wrong_25 ?_
      refine r_ireturn (pc := 26) .int dX11_wrong_26 rfl (by first | rfl | assumption) ?_
      exact ⟨by unfold wrongV; first | rw [if_neg (by omega)] | (rw [if_pos (by omega), if_pos (by omega)]) | (rw [if_pos (by omega), if_neg (by omega)]), rfl⟩
    · refine rj_bipush (pc := 20) dX11_wrong_20 (by decide +kernel) ?_
      refine r_goto (pc := 22) (tgt := 26) dX11_wrong_22 (by decide) ?_
      refine r_ireturn (pc := 26) .int dX11_wrong_26 rfl (by first | rfl | assumption) ?_
      exact ⟨by unfold wrongV; first | rw [if_neg (by omega)] | (rw [if_pos (by omega), if_pos (by omega)]) | (rw [if_pos (by omega), if_neg (by omega)]), rfl⟩
  · try simp only [b01_0, bz_0, Classical.not_not] at c_4
    refine rj_iconst (pc := 7) dX11_wrong_7 ?_
    refine r_goto (pc := 8) (tgt := 26) dX11_wrong_8 (by decide) ?_
    refine r_ireturn (pc := 26) .int dX11_wrong_26 rfl (by first | rfl | assumption) ?_
    exact ⟨by unfold wrongV; first | rw [if_neg (by omega)] | (rw [if_pos (by omega), if_pos (by omega)]) | (rw [if_pos (by omega), if_neg (by omega)]), rfl⟩
def setV (rwd : Nat → Int) (a i : Int) : Int := if wrongV rwd a = 0 then (if 0 ≤ i ∧ i ≤ rwd a.toNat - 1 then 1 else -13) else wrongV rwd a
theorem wrong_0 {rwd : Nat → Int} {a : Int} (h : wrongV rwd a = 0) : 0 ≤ a ∧ a ≤ 3 ∧ 0 ≤ rwd a.toNat := by
  unfold wrongV at h
  split at h
  · split at h
    · exact absurd h (by decide)
    · rename_i h1 h2; exact ⟨h1.1, h1.2, by omega⟩
  · exact absurd h (by decide)
set_option maxHeartbeats 4000000 in
set_option maxRecDepth 100000 in
theorem m_set {G : mG} {l : Launch} (d : Nat) {h : mH} {x s : Nat} {f4 f6 f8 f9 f10 f11 f12 f13 f14 f16 f18 : Int} {m kp was pool tape pln pap rwd rw : Nat → Int}(hB : isM h x (mFs x f4 f6 f8 f9 f10 f11 f12 f13 f14 f16 f18 s) m kp was pool tape pln pap rwd rw) (hRo : ∀ q, InR (rwd q)) {a : Int} (ha : InR a) {i e : Int} (hi : InR i) (h40 : ∀ q, rwd q ≤ 40) : RUNM G l (d + 3) mX11_set [.ref x, .int (J a), .int (J i), .int (J e)] h (fun v h' => v = some (.int (J (setV rwd a i))) ∧ ((¬ setV rwd a i = 1 ∧ h' = h) ∨ (setV rwd a i = 1 ∧ isM h' x (mFs x f4 f6 f8 f9 f10 f11 f12 f13 f14 f16 f18 s) m kp was pool tape pln pap rwd (updI rw (40 * a + i).toNat e) ∧ Same (mBlk x) h h'))) := by
  have hB0 := hB
  dsimp only [mFs] at hB
  refine RUNM.of (by decide +kernel) (Nat.le_of_ble_eq_true rfl) ?_
  refine r_aload_n (pc := 0) dX11_set_0 rfl (by first | rfl | exact isRefV_rf _) ?_
  refine r_iload_n (pc := 1) dX11_set_1 rfl ?_
  refine r_callV1 (pc := 2) dX11_set_2 qX11_wrong kX11_307 vX11_wrong (by exact isM.gx (by assumption)) rfl rfl (Nat.le_of_ble_eq_true rfl) (m_wrong d hB0 hRo ha) (fun v_2 h_2 q_2 => ?_)
  obtain ⟨rfl, rfl⟩ := q_2
  refine r_istore (pc := 5) dX11_set_5 (Nat.le_of_ble_eq_true rfl) ?_
  dsimp only [lsSt, List.set, mLs, mEnt]
  refine r_iload (pc := 7) dX11_set_7 rfl ?_
  have wr := wrong_r (rwd := rwd) (a := a)
  refine rj_if_eq (pc := 9) (tgt := 15) dX11_set_9 (by decide) (by first | assumption | exact b01_r | exact bz_r | omega | (constructor <;> omega) | exact hM _ | exact hPo _ | exact hTa _ | exact hRo _) (fun c_9 => ?_) (fun c_9 => ?_)
  · try simp only [b01_0, bz_0, Classical.not_not] at c_9
    have w0 := wrong_0 c_9
    have r4 := h40 a.toNat
    refine r_iload_n (pc := 15) dX11_set_15 rfl ?_
    refine rj_iconst (pc := 16) dX11_set_16 ?_
    refine r_aload_n (pc := 17) dX11_set_17 rfl (by first | rfl | exact isRefV_rf _) ?_
    refine rm_getf (pc := 18) dX11_set_18 fX11_36 (by assumption) rfl ?_
    refine r_iload_n (pc := 21) dX11_set_21 rfl ?_
    refine rj_iald (pc := 22) dX11_set_22 (by first | exact isM.g0 (by assumption) | exact isM.g3 (by assumption) | exact isM.g4 (by assumption) | exact isM.g8 (by assumption) | exact isM.g7 (by assumption) | exact isM.g6 (by assumption) | exact isM.g5 (by assumption) | exact isM.g1 (by assumption) | exact isM.g2 (by assumption)) (by first | assumption | exact b01_r | exact bz_r | omega | (constructor <;> omega) | exact hM _ | exact hPo _ | exact hTa _ | exact hRo _) (by first | assumption | exact b01_r | exact bz_r | omega | (constructor <;> omega) | exact hM _ | exact hPo _ | exact hTa _ | exact hRo _) (by first | assumption | exact b01_r | exact bz_r | omega | (constructor <;> omega) | exact hM _ | exact hPo _ | exact hTa _ | exact hRo _) rfl ?_
    refine rj_iconst (pc := 23) dX11_set_23 ?_
    refine rj_isub (pc := 24) dX11_set_24 ?_
    refine r_callS3 (pc := 25) dX11_set_25 qX11_isIn kX11_46 sX11_isIn (Nat.le_of_ble_eq_true rfl) (m_isIn (d + 2) hi (by decide) ⟨by omega, by omega⟩) (fun v_25 h_25 q_25 => ?_)
    obtain ⟨rfl, rfl⟩ := q_25
    refine rj_if_ne (pc := 28) (tgt := 34) dX11_set_28 (by decide) (by first | assumption | exact b01_r | exact bz_r | omega | (constructor <;> omega) | exact hM _ | exact hPo _ | exact hTa _ | exact hRo _) (fun c_28 => ?_) (fun c_28 => ?_)
    · try simp only [b01_0, bz_0, Classical.not_not] at c_28
      refine r_aload_n (pc := 34) dX11_set_34 rfl (by first | rfl | exact isRefV_rf _) ?_
      refine rm_getf (pc := 35) dX11_set_35 fX11_39 (by assumption) rfl ?_
      refine rj_bipush (pc := 38) dX11_set_38 (by decide +kernel) ?_
      refine r_iload_n (pc := 40) dX11_set_40 rfl ?_
      refine rj_imul (pc := 41) dX11_set_41 ?_
      refine r_iload_n (pc := 42) dX11_set_42 rfl ?_
      refine rj_iadd (pc := 43) dX11_set_43 ?_
      refine r_iload_n (pc := 44) dX11_set_44 rfl ?_
      first | refine rm_iast8 (pc := 45) (j := (40 * a + i).toNat) dX11_set_45 (by assumption) (by first | assumption | exact b01_r | exact bz_r | omega | (constructor <;> omega) | exact hM _ | exact hPo _ | exact hTa _ | exact hRo _) (by first | assumption | exact b01_r | exact bz_r | omega | (constructor <;> omega) | exact hM _ | exact hPo _ | exact hTa _ | exact hRo _) (by first | assumption | exact b01_r | exact bz_r | omega | (constructor <;> omega) | exact hM _ | exact hPo _ | exact hTa _ | exact hRo _) (by omega) (fun h_45 hB_45 hS_45 => ?_)
      refine rj_iconst (pc := 46) dX11_set_46 ?_
      refine r_ireturn (pc := 47) .int dX11_set_47 rfl (by first | rfl | assumption) ?_
      have e1 : setV rwd a i = 1 := by unfold setV; rw [if_pos c_9, if_pos c_28]
      exact ⟨by rw [e1], Or.inr ⟨e1, hB_45, hS_45⟩⟩
    · try simp only [b01_0, bz_0, Classical.not_not] at c_28
      refine rj_bipush (pc := 31) dX11_set_31 (by decide +kernel) ?_
      refine r_ireturn (pc := 33) .int dX11_set_33 rfl (by first | rfl | assumption) ?_
      have e1 : setV rwd a i = -13 := by unfold setV; rw [if_pos c_9, if_neg c_28]
      exact ⟨by rw [e1], Or.inl ⟨by rw [e1]; decide, rfl⟩⟩
  · try simp only [b01_0, bz_0, Classical.not_not] at c_9
    refine r_iload (pc := 12) dX11_set_12 rfl ?_
    refine r_ireturn (pc := 14) .int dX11_set_14 rfl (by first | rfl | assumption) ?_
    exact ⟨by unfold setV; rw [if_neg c_9], Or.inl ⟨by unfold setV; rw [if_neg c_9]; unfold wrongV; split <;> (try split) <;> decide, rfl⟩⟩
def paperV (f18 : Int) (pap : Nat → Int) (i : Int) : Int := if 0 ≤ i ∧ i ≤ f18 - 1 then pap i.toNat else -1
def logV (m : Nat → Int) (i : Int) : Int := if 0 ≤ i ∧ i ≤ m 2 - 1 then m (1518 + i).toNat else -1
set_option maxHeartbeats 4000000 in
set_option maxRecDepth 100000 in
theorem m_paper {G : mG} {l : Launch} (d : Nat) {h : mH} {x s : Nat} {f4 f6 f8 f9 f10 f11 f12 f13 f14 f16 f18 : Int} {m kp was pool tape pln pap rwd rw : Nat → Int}(hB : isM h x (mFs x f4 f6 f8 f9 f10 f11 f12 f13 f14 f16 f18 s) m kp was pool tape pln pap rwd rw) {i : Int} (hi : InR i) (h0 : 0 ≤ f18) (h1 : f18 ≤ 120) : RUNM G l (d + 1) mX11_paper [.ref x, .int (J i)] h (fun v h' => v = some (.int (J (paperV f18 pap i))) ∧ h' = h) := by
  dsimp only [mFs] at hB
  refine RUNM.of (by decide +kernel) (Nat.le_of_ble_eq_true rfl) ?_
  refine r_iload_n (pc := 0) dX11_paper_0 rfl ?_
  refine rj_iconst (pc := 1) dX11_paper_1 ?_
  refine r_aload_n (pc := 2) dX11_paper_2 rfl (by first | rfl | exact isRefV_rf _) ?_
  refine rm_getf (pc := 3) dX11_paper_3 fX11_298 (by assumption) rfl ?_
  refine rj_iconst (pc := 6) dX11_paper_6 ?_
  refine rj_isub (pc := 7) dX11_paper_7 ?_
  refine r_callS3 (pc := 8) dX11_paper_8 qX11_isIn kX11_46 sX11_isIn (Nat.le_of_ble_eq_true rfl) (m_isIn d hi (by decide) ⟨by omega, by omega⟩) (fun v_8 h_8 q_8 => ?_)
  obtain ⟨rfl, rfl⟩ := q_8
  refine rj_if_eq (pc := 11) (tgt := 23) dX11_paper_11 (by decide) (by first | assumption | exact b01_r | exact bz_r | omega | (constructor <;> omega) | exact hM _ | exact hPo _ | exact hTa _ | exact hRo _) (fun c_11 => ?_) (fun c_11 => ?_)
  · try simp only [b01_0, bz_0, Classical.not_not] at c_11
    refine rj_iconst (pc := 23) dX11_paper_23 ?_
    refine r_ireturn (pc := 24) .int dX11_paper_24 rfl (by first | rfl | assumption) ?_
    first
    | exact ⟨by unfold paperV; rw [if_pos c_11], rfl⟩
    | exact ⟨by unfold paperV; rw [if_neg c_11], rfl⟩
  · try simp only [b01_0, bz_0, Classical.not_not] at c_11
    refine r_aload_n (pc := 14) dX11_paper_14 rfl (by first | rfl | exact isRefV_rf _) ?_
    refine rm_getf (pc := 15) dX11_paper_15 fX11_33 (by assumption) rfl ?_
    refine r_iload_n (pc := 18) dX11_paper_18 rfl ?_
    refine rj_iald (pc := 19) dX11_paper_19 (by first | exact isM.g0 (by assumption) | exact isM.g3 (by assumption) | exact isM.g4 (by assumption) | exact isM.g8 (by assumption) | exact isM.g7 (by assumption) | exact isM.g6 (by assumption) | exact isM.g5 (by assumption) | exact isM.g1 (by assumption) | exact isM.g2 (by assumption)) (by first | assumption | exact b01_r | exact bz_r | omega | (constructor <;> omega) | exact hM _ | exact hPo _ | exact hTa _ | exact hRo _) (by first | assumption | exact b01_r | exact bz_r | omega | (constructor <;> omega) | exact hM _ | exact hPo _ | exact hTa _ | exact hRo _) (by first | assumption | exact b01_r | exact bz_r | omega | (constructor <;> omega) | exact hM _ | exact hPo _ | exact hTa _ | exact hRo _) rfl ?_
    refine r_goto (pc := 20) (tgt := 24) dX11_paper_20 (by decide) ?_
    refine r_ireturn (pc := 24) .int dX11_paper_24 rfl (by first | rfl | assumption) ?_
    first
    | exact ⟨by unfold paperV; rw [if_pos c_11], rfl⟩
    | exact ⟨by unfold paperV; rw [if_neg c_11], rfl⟩
set_option maxHeartbeats 4000000 in
set_option maxRecDepth 100000 in
theorem m_log {G : mG} {l : Launch} (d : Nat) {h : mH} {x s : Nat} {f4 f6 f8 f9 f10 f11 f12 f13 f14 f16 f18 : Int} {m kp was pool tape pln pap rwd rw : Nat → Int}(hB : isM h x (mFs x f4 f6 f8 f9 f10 f11 f12 f13 f14 f16 f18 s) m kp was pool tape pln pap rwd rw) {i : Int} (hi : InR i) (h0 : 0 ≤ m 2) (h1 : m 2 ≤ 90) : RUNM G l (d + 1) mX11_log [.ref x, .int (J i)] h (fun v h' => v = some (.int (J (logV m i))) ∧ h' = h) := by
  dsimp only [mFs] at hB
  refine RUNM.of (by decide +kernel) (Nat.le_of_ble_eq_true rfl) ?_
  refine r_iload_n (pc := 0) dX11_log_0 rfl ?_
  refine rj_iconst (pc := 1) dX11_log_1 ?_
  refine r_aload_n (pc := 2) dX11_log_2 rfl (by first | rfl | exact isRefV_rf _) ?_
  refine rm_getf (pc := 3) dX11_log_3 fX11_11 (by assumption) rfl ?_
  refine rj_iconst (pc := 6) dX11_log_6 ?_
  refine rj_iald (pc := 7) (j := 2) dX11_log_7 (by first | exact isM.g0 (by assumption) | exact isM.g3 (by assumption) | exact isM.g4 (by assumption) | exact isM.g8 (by assumption) | exact isM.g7 (by assumption) | exact isM.g6 (by assumption) | exact isM.g5 (by assumption) | exact isM.g1 (by assumption) | exact isM.g2 (by assumption)) (by first | assumption | exact b01_r | exact bz_r | omega | (constructor <;> omega) | exact hM _ | exact hPo _ | exact hTa _ | exact hRo _) (by first | assumption | exact b01_r | exact bz_r | omega | (constructor <;> omega) | exact hM _ | exact hPo _ | exact hTa _ | exact hRo _) (by first | assumption | exact b01_r | exact bz_r | omega | (constructor <;> omega) | exact hM _ | exact hPo _ | exact hTa _ | exact hRo _) rfl ?_
  refine rj_iconst (pc := 8) dX11_log_8 ?_
  refine rj_isub (pc := 9) dX11_log_9 ?_
  refine r_callS3 (pc := 10) dX11_log_10 qX11_isIn kX11_46 sX11_isIn (Nat.le_of_ble_eq_true rfl) (m_isIn d hi (by decide) ⟨by omega, by omega⟩) (fun v_10 h_10 q_10 => ?_)
  obtain ⟨rfl, rfl⟩ := q_10
  refine rj_if_eq (pc := 13) (tgt := 29) dX11_log_13 (by decide) (by first | assumption | exact b01_r | exact bz_r | omega | (constructor <;> omega) | exact hM _ | exact hPo _ | exact hTa _ | exact hRo _) (fun c_13 => ?_) (fun c_13 => ?_)
  · try simp only [b01_0, bz_0, Classical.not_not] at c_13
    refine rj_iconst (pc := 29) dX11_log_29 ?_
    refine r_ireturn (pc := 30) .int dX11_log_30 rfl (by first | rfl | assumption) ?_
    first
    | exact ⟨by unfold logV; rw [if_pos c_13], rfl⟩
    | exact ⟨by unfold logV; rw [if_neg c_13], rfl⟩
  · try simp only [b01_0, bz_0, Classical.not_not] at c_13
    refine r_aload_n (pc := 16) dX11_log_16 rfl (by first | rfl | exact isRefV_rf _) ?_
    refine rm_getf (pc := 17) dX11_log_17 fX11_11 (by assumption) rfl ?_
    refine rj_sipush (pc := 20) dX11_log_20 (by decide +kernel) ?_
    refine r_iload_n (pc := 23) dX11_log_23 rfl ?_
    refine rj_iadd (pc := 24) dX11_log_24 ?_
    refine rj_iald (pc := 25) dX11_log_25 (by first | exact isM.g0 (by assumption) | exact isM.g3 (by assumption) | exact isM.g4 (by assumption) | exact isM.g8 (by assumption) | exact isM.g7 (by assumption) | exact isM.g6 (by assumption) | exact isM.g5 (by assumption) | exact isM.g1 (by assumption) | exact isM.g2 (by assumption)) (by first | assumption | exact b01_r | exact bz_r | omega | (constructor <;> omega) | exact hM _ | exact hPo _ | exact hTa _ | exact hRo _) (by first | assumption | exact b01_r | exact bz_r | omega | (constructor <;> omega) | exact hM _ | exact hPo _ | exact hTa _ | exact hRo _) (by first | assumption | exact b01_r | exact bz_r | omega | (constructor <;> omega) | exact hM _ | exact hPo _ | exact hTa _ | exact hRo _) rfl ?_
    refine r_goto (pc := 26) (tgt := 30) dX11_log_26 (by decide) ?_
    refine r_ireturn (pc := 30) .int dX11_log_30 rfl (by first | rfl | assumption) ?_
    first
    | exact ⟨by unfold logV; rw [if_pos c_13], rfl⟩
    | exact ⟨by unfold logV; rw [if_neg c_13], rfl⟩
def openV (m : Nat → Int) (a : Int) : Int := if 0 ≤ a ∧ a ≤ m 0 - 1 then (if openP m a then (if m 0 = 60 then -4 else m 0) else -3) else -1
set_option maxHeartbeats 4000000 in
set_option maxRecDepth 100000 in
theorem m_open {G : mG} {l : Launch} (d : Nat) {h : mH} {x s : Nat} {f4 f6 f8 f9 f10 f11 f12 f13 f14 f16 f18 : Int} {m kp was pool tape pln pap rwd rw : Nat → Int}(hB : isM h x (mFs x f4 f6 f8 f9 f10 f11 f12 f13 f14 f16 f18 s) m kp was pool tape pln pap rwd rw) (hM : ∀ q, InR (m q)) {C : Nat} (hC : m 0 = (C : Int)) (hC2 : C ≤ 60) {a : Int} (ha : InR a) : RUNM G l (d + 3) mX11_open [.ref x, .int (J a)] h (fun v h' => v = some (.int (J (openV m a))) ∧ ((openV m a < 0 ∧ h' = h) ∨ (0 ≤ openV m a ∧ C ≤ 59 ∧ isM h' x (mFs x f4 f6 f8 f9 f10 f11 f12 f13 f14 f16 f18 s) (opensM m C a (-5)) kp was pool tape pln pap rwd rw ∧ Same (mBlk x) h h'))) := by
  have hB0 := hB
  have r0 := hM 0
  dsimp only [mFs] at hB
  refine RUNM.of (by decide +kernel) (Nat.le_of_ble_eq_true rfl) ?_
  refine r_aload_n (pc := 0) dX11_open_0 rfl (by first | rfl | exact isRefV_rf _) ?_
  refine r_iload_n (pc := 1) dX11_open_1 rfl ?_
  refine r_callV1 (pc := 2) dX11_open_2 qX11_isScope kX11_50 vX11_isScope (by exact isM.gx (by assumption)) rfl rfl (Nat.le_of_ble_eq_true rfl) (m_isScope (d + 1) hB0 ha ⟨by omega, by omega⟩) (fun v_2 h_2 q_2 => ?_)
  obtain ⟨rfl, rfl⟩ := q_2
  refine rj_if_ne (pc := 5) (tgt := 10) dX11_open_5 (by decide) (by first | assumption | exact b01_r | exact bz_r | omega | (constructor <;> omega) | exact hM _ | exact hPo _ | exact hTa _ | exact hRo _) (fun c_5 => ?_) (fun c_5 => ?_)
  · try simp only [b01_0, bz_0, Classical.not_not] at c_5
    refine r_aload_n (pc := 10) dX11_open_10 rfl (by first | rfl | exact isRefV_rf _) ?_
    refine r_iload_n (pc := 11) dX11_open_11 rfl ?_
    refine r_callV1 (pc := 12) dX11_open_12 qX11_isOpen kX11_146 vX11_isOpen (by exact isM.gx (by assumption)) rfl rfl (Nat.le_of_ble_eq_true rfl) (m_isOpen d hB0 hM ⟨by omega, by omega⟩ ha) (fun v_12 h_12 q_12 => ?_)
    obtain ⟨rfl, rfl⟩ := q_12
    refine rj_if_ne (pc := 15) (tgt := 21) dX11_open_15 (by decide) (by first | assumption | exact b01_r | exact bz_r | omega | (constructor <;> omega) | exact hM _ | exact hPo _ | exact hTa _ | exact hRo _) (fun c_15 => ?_) (fun c_15 => ?_)
    · try simp only [b01_0, bz_0, Classical.not_not] at c_15
      refine r_aload_n (pc := 21) dX11_open_21 rfl (by first | rfl | exact isRefV_rf _) ?_
      refine rm_getf (pc := 22) dX11_open_22 fX11_11 (by assumption) rfl ?_
      refine rj_iconst (pc := 25) dX11_open_25 ?_
      refine rj_iald (pc := 26) (j := 0) dX11_open_26 (by first | exact isM.g0 (by assumption) | exact isM.g3 (by assumption) | exact isM.g4 (by assumption) | exact isM.g8 (by assumption) | exact isM.g7 (by assumption) | exact isM.g6 (by assumption) | exact isM.g5 (by assumption) | exact isM.g1 (by assumption) | exact isM.g2 (by assumption)) (by first | assumption | exact b01_r | exact bz_r | omega | (constructor <;> omega) | exact hM _ | exact hPo _ | exact hTa _ | exact hRo _) (by first | assumption | exact b01_r | exact bz_r | omega | (constructor <;> omega) | exact hM _ | exact hPo _ | exact hTa _ | exact hRo _) (by first | assumption | exact b01_r | exact bz_r | omega | (constructor <;> omega) | exact hM _ | exact hPo _ | exact hTa _ | exact hRo _) rfl ?_
      refine rj_bipush (pc := 27) dX11_open_27 (by decide +kernel) ?_
      refine rj_icmp_ne (pc := 29) (tgt := 37) dX11_open_29 (by decide) (by first | assumption | exact b01_r | exact bz_r | omega | (constructor <;> omega) | exact hM _ | exact hPo _ | exact hTa _ | exact hRo _) (by first | assumption | exact b01_r | exact bz_r | omega | (constructor <;> omega) | exact hM _ | exact hPo _ | exact hTa _ | exact hRo _) (fun c_29 => ?_) (fun c_29 => ?_)
      · refine r_aload_n (pc := 37) dX11_open_37 rfl (by first | rfl | exact isRefV_rf _) ?_
        refine r_iload_n (pc := 38) dX11_open_38 rfl ?_
        refine rj_bipush (pc := 39) dX11_open_39 (by decide +kernel) ?_
        refine r_callV2 (pc := 41) dX11_open_41 qX11_opens kX11_186 vX11_opens (by exact isM.gx (by assumption)) rfl rfl (Nat.le_of_ble_eq_true rfl) (m_opens (d + 1) hB0 hC (by omega)) (fun v_41 h_41 q_41 => ?_)
        obtain ⟨rfl, hB_41, hS_41⟩ := q_41
        refine r_ireturn (pc := 44) .int dX11_open_44 rfl (by first | rfl | assumption) ?_
        first
        | (have e1 : openV m a = -4 := by unfold openV; rw [if_pos c_5, if_pos c_15, if_pos c_29]
           exact ⟨by rw [e1], Or.inl ⟨by rw [e1]; decide, rfl⟩⟩)
        | (have e1 : openV m a = (C : Int) := by unfold openV; rw [if_pos c_5, if_pos c_15, if_neg c_29, hC]
           exact ⟨by rw [e1], Or.inr ⟨by rw [e1]; omega, by omega, hB_41, hS_41⟩⟩)
      · refine rj_bipush (pc := 32) dX11_open_32 (by decide +kernel) ?_
        refine r_goto (pc := 34) (tgt := 44) dX11_open_34 (by decide) ?_
        refine r_ireturn (pc := 44) .int dX11_open_44 rfl (by first | rfl | assumption) ?_
        first
        | (have e1 : openV m a = -4 := by unfold openV; rw [if_pos c_5, if_pos c_15, if_pos c_29]
           exact ⟨by rw [e1], Or.inl ⟨by rw [e1]; decide, rfl⟩⟩)
        | (have e1 : openV m a = (C : Int) := by unfold openV; rw [if_pos c_5, if_pos c_15, if_neg c_29, hC]
           exact ⟨by rw [e1], Or.inr ⟨by rw [e1]; omega, by omega, hB_41, hS_41⟩⟩)
    · try simp only [b01_0, bz_0, Classical.not_not] at c_15
      refine rj_bipush (pc := 18) dX11_open_18 (by decide +kernel) ?_
      refine r_ireturn (pc := 20) .int dX11_open_20 rfl (by first | rfl | assumption) ?_
      have e1 : openV m a = -3 := by unfold openV; rw [if_pos c_5, if_neg c_15]
      exact ⟨by rw [e1], Or.inl ⟨by rw [e1]; decide, rfl⟩⟩
  · try simp only [b01_0, bz_0, Classical.not_not] at c_5
    refine rj_iconst (pc := 8) dX11_open_8 ?_
    refine r_ireturn (pc := 9) .int dX11_open_9 rfl (by first | rfl | assumption) ?_
    have e1 : openV m a = -1 := by unfold openV; rw [if_neg c_5]
    exact ⟨by rw [e1], Or.inl ⟨by rw [e1]; decide, rfl⟩⟩

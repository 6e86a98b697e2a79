section mg_33
/-! ===== contracts of the reference: some of the face ===== -/
set_option maxHeartbeats 4000000 in
set_option maxRecDepth 100000 in
theorem m_isRow {G : mG} {l : Launch} (d : Nat) {h : mH} {a : Int} (ha : InR a) : RUNM G l (d + 1) mX11_isRow [.int (J a)] h (fun v h' => v = some (.int (J (b01 (0 ≤ a ∧ a ≤ 3)))) ∧ h' = h) := by
  refine RUNM.of (by decide +kernel) (Nat.le_of_ble_eq_true rfl) ?_
  refine r_iload_n (pc := 0) dX11_isRow_0 rfl ?_
  refine rj_iconst (pc := 1) dX11_isRow_1 ?_
  refine rj_iconst (pc := 2) dX11_isRow_2 ?_
  refine r_callS3 (pc := 3) dX11_isRow_3 qX11_isIn kX11_46 sX11_isIn (Nat.le_of_ble_eq_true rfl) (m_isIn d ha (by decide) (by decide)) (fun v_3 h_3 q_3 => ?_)
  obtain ⟨rfl, rfl⟩ := q_3
  refine r_ireturn (pc := 6) .boolean dX11_isRow_6 rfl (by first | exact nar_J0 | exact nar_J1 | exact nar_b01 | exact nar_bz) ?_
  first
  | exact ⟨rfl, rfl⟩
  | exact ⟨vf (by omega), rfl⟩
  | exact ⟨vt (by omega), rfl⟩
def wrongV (rwd : Nat → Int) (a : Int) : Int := if 0 ≤ a ∧ a ≤ 3 then (if rwd a.toNat < 0 then -11 else 0) else -1
theorem wrong_r {rwd : Nat → Int} {a : Int} : InR (wrongV rwd a) := by unfold wrongV; split <;> (try split) <;> decide
set_option maxHeartbeats 4000000 in
set_option maxRecDepth 100000 in
theorem m_wrong {G : mG} {l : Launch} (d : Nat) {h : mH} {x s : Nat} {f4 f6 f8 f9 f10 f11 f12 f13 f14 f16 f18 : Int} {m kp was pool tape pln pap rwd rw : Nat → Int}(hB : isM h x (mFs x f4 f6 f8 f9 f10 f11 f12 f13 f14 f16 f18 s) m kp was pool tape pln pap rwd rw) (hRo : ∀ q, InR (rwd q)) {a : Int} (ha : InR a) : RUNM G l (d + 2) mX11_wrong [.ref x, .int (J a)] h (fun v h' => v = some (.int (J (wrongV rwd a))) ∧ h' = h) := by
  dsimp only [mFs] at hB
  refine RUNM.of (by decide +kernel) (Nat.le_of_ble_eq_true rfl) ?_
  refine r_iload_n (pc := 0) dX11_wrong_0 rfl ?_
  refine r_callS1 (pc := 1) dX11_wrong_1 qX11_isRow kX11_304 sX11_isRow (Nat.le_of_ble_eq_true rfl) (m_isRow d ha) (fun v_1 h_1 q_1 => ?_)
  obtain ⟨rfl, rfl⟩ := q_1
  refine rj_if_ne (pc := 4) (tgt := 11) dX11_wrong_4 (by decide) (by first | assumption | exact b01_r | exact bz_r | omega | (constructor <;> omega) | exact hM _ | exact hPo _ | exact hTa _ | exact hRo _) (fun c_4 => ?_) (fun c_4 => ?_)
  · try simp only [b01_0, bz_0, Classical.not_not] at c_4
    refine r_aload_n (pc := 11) dX11_wrong_11 rfl (by first | rfl | exact isRefV_rf _) ?_
    refine rm_getf (pc := 12) dX11_wrong_12 fX11_36 (by assumption) rfl ?_
    refine r_iload_n (pc := 15) dX11_wrong_15 rfl ?_
    refine rj_iald (pc := 16) dX11_wrong_16 (by first | exact isM.g0 (by assumption) | exact isM.g3 (by assumption) | exact isM.g4 (by assumption) | exact isM.g8 (by assumption) | exact isM.g7 (by assumption) | exact isM.g6 (by assumption) | exact isM.g5 (by assumption) | exact isM.g1 (by assumption) | exact isM.g2 (by assumption)) (by first | assumption | exact b01_r | exact bz_r | omega | (constructor <;> omega) | exact hM _ | exact hPo _ | exact hTa _ | exact hRo _) (by first | assumption | exact b01_r | exact bz_r | omega | (constructor <;> omega) | exact hM _ | exact hPo _ | exact hTa _ | exact hRo _) (by first | assumption | exact b01_r | exact bz_r | omega | (constructor <;> omega) | exact hM _ | exact hPo _ | exact hTa _ | exact hRo _) rfl ?_
    refine rj_if_ge (pc := 17) (tgt := 25) dX11_wrong_17 (by decide) (by first | assumption | exact b01_r | exact bz_r | omega | (constructor <;> omega) | exact hM _ | exact hPo _ | exact hTa _ | exact hRo _) (fun c_17 => ?_) (fun c_17 => ?_)
    · refine rj_iconst (pc := 25) dX11_wrong_25 ?_
      refine r_ireturn (pc := 26) .int dX11_wrong_26 rfl (by first | rfl | assumption) ?_
      exact ⟨by unfold wrongV; first | rw [if_neg (by omega)] | (rw [if_pos (by omega), if_pos (by omega)]) | (rw [if_pos (by omega), if_neg (by omega)]), rfl⟩
    · refine rj_bipush (pc := 20) dX11_wrong_20 (by decide +kernel) ?_
      refine r_goto (pc := 22) (tgt := 26) dX11_wrong_22 (by decide) ?_
      refine r_ireturn (pc := 26) .int dX11_wrong_26 rfl (by first | rfl | assumption) ?_
      exact ⟨by unfold wrongV; first | rw [if_neg (by omega)] | (rw [if_pos (by omega), if_pos (by omega)]) | (rw [if_pos (by omega), if_neg (by omega)]), rfl⟩
  · try simp only [b01_0, bz_0, Classical.not_not] at c_4
    refine rj_iconst (pc := 7) dX11_wrong_7 ?_
    refine r_goto (pc := 8) (tgt := 26) dX11_wrong_8 (by decide) ?_
    refine r_ireturn (pc := 26) .int dX11_wrong_26 rfl (by first | rfl | assumption) ?_
    exact ⟨by unfold wrongV; first | rw [if_neg (by omega)] | (rw [if_pos (by omega), if_pos (by omega)]) | (rw [if_pos (by omega), if_neg (by omega)]), rfl⟩
def setV (rwd : Nat → Int) (a i : Int) : Int := if wrongV rwd a = 0 then (if 0 ≤ i ∧ i ≤ rwd a.toNat - 1 then 1 else -13) else wrongV rwd a
theorem wrong_0 {rwd : Nat → Int} {a : Int} (h : wrongV rwd a = 0) : 0 ≤ a ∧ a ≤ 3 ∧ 0 ≤ rwd a.toNat := by
  unfold wrongV at h
  split at h
  · split at h
    · exact absurd h (by decide)
    · rename_i h1 h2; exact ⟨h1.1, h1.2, by omega⟩
  · exact absurd h (by decide)
set_option maxHeartbeats 4000000 in
set_option maxRecDepth 100000 in
theorem m_set {G : mG} {l : Launch} (d : Nat) {h : mH} {x s : Nat} {f4 f6 f8 f9 f10 f11 f12 f13 f14 f16 f18 : Int} {m kp was pool tape pln pap rwd rw : Nat → Int}(hB : isM h x (mFs x f4 f6 f8 f9 f10 f11 f12 f13 f14 f16 f18 s) m kp was pool tape pln pap rwd rw) (hRo : ∀ q, InR (rwd q)) {a : Int} (ha : InR a) {i e : Int} (hi : InR i) (h40 : ∀ q, rwd q ≤ 40) : RUNM G l (d + 3) mX11_set [.ref x, .int (J a), .int (J i), .int (J e)] h (fun v h' => v = some (.int (J (setV rwd a i))) ∧ ((¬ setV rwd a i = 1 ∧ h' = h) ∨ (setV rwd a i = 1 ∧ isM h' x (mFs x f4 f6 f8 f9 f10 f11 f12 f13 f14 f16 f18 s) m kp was pool tape pln pap rwd (updI rw (40 * a + i).toNat e) ∧ Same (mBlk x) h h'))) := by
  have hB0 := hB
  dsimp only [mFs] at hB
  refine RUNM.of (by decide +kernel) (Nat.le_of_ble_eq_true rfl) ?_
  refine r_aload_n (pc := 0) dX11_set_0 rfl (by first | rfl | exact isRefV_rf _) ?_
  refine r_iload_n (pc := 1) dX11_set_1 rfl ?_
  refine r_callV1 (pc := 2) dX11_set_2 qX11_wrong kX11_307 vX11_wrong (by exact isM.gx (by assumption)) rfl rfl (Nat.le_of_ble_eq_true rfl) (m_wrong d hB0 hRo ha) (fun v_2 h_2 q_2 => ?_)
  obtain ⟨rfl, rfl⟩ := q_2
  refine r_istore (pc := 5) dX11_set_5 (Nat.le_of_ble_eq_true rfl) ?_
  dsimp only [lsSt, List.set, mLs, mEnt]
  refine r_iload (pc := 7) dX11_set_7 rfl ?_
  have wr := wrong_r (rwd := rwd) (a := a)
  refine rj_if_eq (pc := 9) (tgt := 15) dX11_set_9 (by decide) (by first | assumption | exact b01_r | exact bz_r | omega | (constructor <;> omega) | exact hM _ | exact hPo _ | exact hTa _ | exact hRo _) (fun c_9 => ?_) (fun c_9 => ?_)
  · try simp only [b01_0, bz_0, Classical.not_not] at c_9
    have w0 := wrong_0 c_9
    have r4 := h40 a.toNat
    refine r_iload_n (pc := 15) dX11_set_15 rfl ?_
    refine rj_iconst (pc := 16) dX11_set_16 ?_
    refine r_aload_n (pc := 17) dX11_set_17 rfl (by first | rfl | exact isRefV_rf _) ?_
    refine rm_getf (pc := 18) dX11_set_18 fX11_36 (by assumption) rfl ?_
    refine r_iload_n (pc := 21) dX11_set_21 rfl ?_
    refine rj_iald (pc := 22) dX11_set_22 (by first | exact isM.g0 (by assumption) | exact isM.g3 (by assumption) | exact isM.g4 (by assumption) | exact isM.g8 (by assumption) | exact isM.g7 (by assumption) | exact isM.g6 (by assumption) | exact isM.g5 (by assumption) | exact isM.g1 (by assumption) | exact isM.g2 (by assumption)) (by first | assumption | exact b01_r | exact bz_r | omega | (constructor <;> omega) | exact hM _ | exact hPo _ | exact hTa _ | exact hRo _) (by first | assumption | exact b01_r | exact bz_r | omega | (constructor <;> omega) | exact hM _ | exact hPo _ | exact hTa _ | exact hRo _) (by first | assumption | exact b01_r | exact bz_r | omega | (constructor <;> omega) | exact hM _ | exact hPo _ | exact hTa _ | exact hRo _) rfl ?_
    refine rj_iconst (pc := 23) dX11_set_23 ?_
    refine rj_isub (pc := 24) dX11_set_24 ?_
    refine r_callS3 (pc := 25) dX11_set_25 qX11_isIn kX11_46 sX11_isIn (Nat.le_of_ble_eq_true rfl) (m_isIn (d + 2) hi (by decide) ⟨by omega, by omega⟩) (fun v_25 h_25 q_25 => ?_)
    obtain ⟨rfl, rfl⟩ := q_25
    refine rj_if_ne (pc := 28) (tgt := 34) dX11_set_28 (by decide) (by first | assumption | exact b01_r | exact bz_r | omega | (constructor <;> omega) | exact hM _ | exact hPo _ | exact hTa _ | exact hRo _) (fun c_28 => ?_) (fun c_28 => ?_)
    · try simp only [b01_0, bz_0, Classical.not_not] at c_28
      refine r_aload_n (pc := 34) dX11_set_34 rfl (by first | rfl | exact isRefV_rf _) ?_
      refine rm_getf (pc := 35) dX11_set_35 fX11_39 (by assumption) rfl ?_
      refine rj_bipush (pc := 38) dX11_set_38 (by decide +kernel) ?_
      refine r_iload_n (pc := 40) dX11_set_40 rfl ?_
      refine rj_imul (pc := 41) dX11_set_41 ?_
      refine r_iload_n (pc := 42) dX11_set_42 rfl ?_
      refine rj_iadd (pc := 43) dX11_set_43 ?_
      refine r_iload_n (pc := 44) dX11_set_44 rfl ?_
      first | refine rm_iast8 (pc := 45) (j := (40 * a + i).toNat) dX11_set_45 (by assumption) (by first | assumption | exact b01_r | exact bz_r | omega | (constructor <;> omega) | exact hM _ | exact hPo _ | exact hTa _ | exact hRo _) (by first | assumption | exact b01_r | exact bz_r | omega | (constructor <;> omega) | exact hM _ | exact hPo _ | exact hTa _ | exact hRo _) (by first | assumption | exact b01_r | exact bz_r | omega | (constructor <;> omega) | exact hM _ | exact hPo _ | exact hTa _ | exact hRo _) (by omega) (fun h_45 hB_45 hS_45 => ?_)
      refine rj_iconst (pc := 46) dX11_set_46 ?_
      refine r_ireturn (pc := 47) .int dX11_set_47 rfl (by first | rfl | assumption) ?_
      have e1 : setV rwd a i = 1 := by unfold setV; rw [if_pos c_9, if_pos c_28]
      exact ⟨by rw [e1], Or.inr ⟨e1, hB_45, hS_45⟩⟩
    · try simp only [b01_0, bz_0, Classical.not_not] at c_28
      refine rj_bipush (pc := 31) dX11_set_31 (by decide +kernel) ?_
      refine r_ireturn (pc := 33) .int dX11_set_33 rfl (by first | rfl | assumption) ?_
      have e1 : setV rwd a i = -13 := by unfold setV; rw [if_pos c_9, if_neg c_28]
      exact ⟨by rw [e1], Or.inl ⟨by rw [e1]; decide, rfl⟩⟩
  · try simp only [b01_0, bz_0, Classical.not_not] at c_9
    refine r_iload (pc := 12) dX11_set_12 rfl ?_
    refine r_ireturn (pc := 14) .int dX11_set_14 rfl (by first | rfl | assumption) ?_
    exact ⟨by unfold setV; rw [if_neg c_9], Or.inl ⟨by unfold setV; rw [if_neg c_9]; unfold wrongV; split <;> (try split) <;> decide, rfl⟩⟩
def paperV (f18 : Int) (pap : Nat → Int) (i : Int) : Int := if 0 ≤ i ∧ i ≤ f18 - 1 then pap i.toNat else -1
def logV (m : Nat → Int) (i : Int) : Int := if 0 ≤ i ∧ i ≤ m 2 - 1 then m (1518 + i).toNat else -1
set_option maxHeartbeats 4000000 in
set_option maxRecDepth 100000 in
theorem m_paper {G : mG} {l : Launch} (d : Nat) {h : mH} {x s : Nat} {f4 f6 f8 f9 f10 f11 f12 f13 f14 f16 f18 : Int} {m kp was pool tape pln pap rwd rw : Nat → Int}(hB : isM h x (mFs x f4 f6 f8 f9 f10 f11 f12 f13 f14 f16 f18 s) m kp was pool tape pln pap rwd rw) {i : Int} (hi : InR i) (h0 : 0 ≤ f18) (h1 : f18 ≤ 120) : RUNM G l (d + 1) mX11_paper [.ref x, .int (J i)] h (fun v h' => v = some (.int (J (paperV f18 pap i))) ∧ h' = h) := by
  dsimp only [mFs] at hB
  refine RUNM.of (by decide +kernel) (Nat.le_of_ble_eq_true rfl) ?_
  refine r_iload_n (pc := 0) dX11_paper_0 rfl ?_
  refine rj_iconst (pc := 1) dX11_paper_1 ?_
  refine r_aload_n (pc := 2) dX11_paper_2 rfl (by first | rfl | exact isRefV_rf _) ?_
  refine rm_getf (pc := 3) dX11_paper_3 fX11_298 (by assumption) rfl ?_
  refine rj_iconst (pc := 6) dX11_paper_6 ?_
  refine rj_isub (pc := 7) dX11_paper_7 ?_
  refine r_callS3 (pc := 8) dX11_paper_8 qX11_isIn kX11_46 sX11_isIn (Nat.le_of_ble_eq_true rfl) (m_isIn d hi (by decide) ⟨by omega, by omega⟩) (fun v_8 h_8 q_8 => ?_)
  obtain ⟨rfl, rfl⟩ := q_8
  refine rj_if_eq (pc := 11) (tgt := 23) dX11_paper_11 (by decide) (by first | assumption | exact b01_r | exact bz_r | omega | (constructor <;> omega) | exact hM _ | exact hPo _ | exact hTa _ | exact hRo _) (fun c_11 => ?_) (fun c_11 => ?_)
  · try simp only [b01_0, bz_0, Classical.not_not] at c_11
    refine rj_iconst (pc := 23) dX11_paper_23 ?_
    refine r_ireturn (pc := 24) .int dX11_paper_24 rfl (by first | rfl | assumption) ?_
    first
    | exact ⟨by unfold paperV; rw [if_pos c_11], rfl⟩
    | exact ⟨by unfold paperV; rw [if_neg c_11], rfl⟩
  · try simp only [b01_0, bz_0, Classical.not_not] at c_11
    refine r_aload_n (pc := 14) dX11_paper_14 rfl (by first | rfl | exact isRefV_rf _) ?_
    refine rm_getf (pc := 15) dX11_paper_15 fX11_33 (by assumption) rfl ?_
    refine r_iload_n (pc := 18) dX11_paper_18 rfl ?_
    refine rj_iald (pc := 19) dX11_paper_19 (by first | exact isM.g0 (by assumption) | exact isM.g3 (by assumption) | exact isM.g4 (by assumption) | exact isM.g8 (by assumption) | exact isM.g7 (by assumption) | exact isM.g6 (by assumption) | exact isM.g5 (by assumption) | exact isM.g1 (by assumption) | exact isM.g2 (by assumption)) (by first | assumption | exact b01_r | exact bz_r | omega | (constructor <;> omega) | exact hM _ | exact hPo _ | exact hTa _ | exact hRo _) (by first | assumption | exact b01_r | exact bz_r | omega | (constructor <;> omega) | exact hM _ | exact hPo _ | exact hTa _ | exact hRo _) (by first | assumption | exact b01_r | exact bz_r | omega | (constructor <;> omega) | exact hM _ | exact hPo _ | exact hTa _ | exact hRo _) rfl ?_
    refine r_goto (pc := 20) (tgt := 24) dX11_paper_20 (by decide) ?_
    refine r_ireturn (pc := 24) .int dX11_paper_24 rfl (by first | rfl | assumption) ?_
    first
    | exact ⟨by unfold paperV; rw [if_pos c_11], rfl⟩
    | exact ⟨by unfold paperV; rw [if_neg c_11], rfl⟩
set_option maxHeartbeats 4000000 in
set_option maxRecDepth 100000 in
theorem m_log {G : mG} {l : Launch} (d : Nat) {h : mH} {x s : Nat} {f4 f6 f8 f9 f10 f11 f12 f13 f14 f16 f18 : Int} {m kp was pool tape pln pap rwd rw : Nat → Int}(hB : isM h x (mFs x f4 f6 f8 f9 f10 f11 f12 f13 f14 f16 f18 s) m kp was pool tape pln pap rwd rw) {i : Int} (hi : InR i) (h0 : 0 ≤ m 2) (h1 : m 2 ≤ 90) : RUNM G l (d + 1) mX11_log [.ref x, .int (J i)] h (fun v h' => v = some (.int (J (logV m i))) ∧ h' = h) := by
  dsimp only [mFs] at hB
  refine RUNM.of (by decide +kernel) (Nat.le_of_ble_eq_true rfl) ?_
  refine r_iload_n (pc := 0) dX11_log_0 rfl ?_
  refine rj_iconst (pc := 1) dX11_log_1 ?_
  refine r_aload_n (pc := 2) dX11_log_2 rfl (by first | rfl | exact isRefV_rf _) ?_
  refine rm_getf (pc := 3) dX11_log_3 fX11_11 (by assumption) rfl ?_
  refine rj_iconst (pc := 6) dX11_log_6 ?_
  refine rj_iald (pc := 7) (j := 2) dX11_log_7 (by first | exact isM.g0 (by assumption) | exact isM.g3 (by assumption) | exact isM.g4 (by assumption) | exact isM.g8 (by assumption) | exact isM.g7 (by assumption) | exact isM.g6 (by assumption) | exact isM.g5 (by assumption) | exact isM.g1 (by assumption) | exact isM.g2 (by assumption)) (by first | assumption | exact b01_r | exact bz_r | omega | (constructor <;> omega) | exact hM _ | exact hPo _ | exact hTa _ | exact hRo _) (by first | assumption | exact b01_r | exact bz_r | omega | (constructor <;> omega) | exact hM _ | exact hPo _ | exact hTa _ | exact hRo _) (by first | assumption | exact b01_r | exact bz_r | omega | (constructor <;> omega) | exact hM _ | exact hPo _ | exact hTa _ | exact hRo _) rfl ?_
  refine rj_iconst (pc := 8) dX11_log_8 ?_
  refine rj_isub (pc := 9) dX11_log_9 ?_
  refine r_callS3 (pc := 10) dX11_log_10 qX11_isIn kX11_46 sX11_isIn (Nat.le_of_ble_eq_true rfl) (m_isIn d hi (by decide) ⟨by omega, by omega⟩) (fun v_10 h_10 q_10 => ?_)
  obtain ⟨rfl, rfl⟩ := q_10
  refine rj_if_eq (pc := 13) (tgt := 29) dX11_log_13 (by decide) (by first | assumption | exact b01_r | exact bz_r | omega | (constructor <;> omega) | exact hM _ | exact hPo _ | exact hTa _ | exact hRo _) (fun c_13 => ?_) (fun c_13 => ?_)
  · try simp only [b01_0, bz_0, Classical.not_not] at c_13
    refine rj_iconst (pc := 29) dX11_log_29 ?_
    refine r_ireturn (pc := 30) .int dX11_log_30 rfl (by first | rfl | assumption) ?_
    first
    | exact ⟨by unfold logV; rw [if_pos c_13], rfl⟩
    | exact ⟨by unfold logV; rw [if_neg c_13], rfl⟩
  · try simp only [b01_0, bz_0, Classical.not_not] at c_13
    refine r_aload_n (pc := 16) dX11_log_16 rfl (by first | rfl | exact isRefV_rf _) ?_
    refine rm_getf (pc := 17) dX11_log_17 fX11_11 (by assumption) rfl ?_
    refine rj_sipush (pc := 20) dX11_log_20 (by decide +kernel) ?_
    refine r_iload_n (pc := 23) dX11_log_23 rfl ?_
    refine rj_iadd (pc := 24) dX11_log_24 ?_
    refine rj_iald (pc := 25) dX11_log_25 (by first | exact isM.g0 (by assumption) | exact isM.g3 (by assumption) | exact isM.g4 (by assumption) | exact isM.g8 (by assumption) | exact isM.g7 (by assumption) | exact isM.g6 (by assumption) | exact isM.g5 (by assumption) | exact isM.g1 (by assumption) | exact isM.g2 (by assumption)) (by first | assumption | exact b01_r | exact bz_r | omega | (constructor <;> omega) | exact hM _ | exact hPo _ | exact hTa _ | exact hRo _) (by first | assumption | exact b01_r | exact bz_r | omega | (constructor <;> omega) | exact hM _ | exact hPo _ | exact hTa _ | exact hRo _) (by first | assumption | exact b01_r | exact bz_r | omega | (constructor <;> omega) | exact hM _ | exact hPo _ | exact hTa _ | exact hRo _) rfl ?_
    refine r_goto (pc := 26) (tgt := 30) dX11_log_26 (by decide) ?_
    refine r_ireturn (pc := 30) .int dX11_log_30 rfl (by first | rfl | assumption) ?_
    first
    | exact ⟨by unfold logV; rw [if_pos c_13], rfl⟩
    | exact ⟨by unfold logV; rw [if_neg c_13], rfl⟩
def openV (m : Nat → Int) (a : Int) : Int := if 0 ≤ a ∧ a ≤ m 0 - 1 then (if openP m a then (if m 0 = 60 then -4 else m 0) else -3) else -1
set_option maxHeartbeats 4000000 in
set_option maxRecDepth 100000 in
theorem m_open {G : mG} {l : Launch} (d : Nat) {h : mH} {x s : Nat} {f4 f6 f8 f9 f10 f11 f12 f13 f14 f16 f18 : Int} {m kp was pool tape pln pap rwd rw : Nat → Int}(hB : isM h x (mFs x f4 f6 f8 f9 f10 f11 f12 f13 f14 f16 f18 s) m kp was pool tape pln pap rwd rw) (hM : ∀ q, InR (m q)) {C : Nat} (hC : m 0 = (C : Int)) (hC2 : C ≤ 60) {a : Int} (ha : InR a) : RUNM G l (d + 3) mX11_open [.ref x, .int (J a)] h (fun v h' => v = some (.int (J (openV m a))) ∧ ((openV m a < 0 ∧ h' = h) ∨ (0 ≤ openV m a ∧ C ≤ 59 ∧ isM h' x (mFs x f4 f6 f8 f9 f10 f11 f12 f13 f14 f16 f18 s) (opensM m C a (-5)) kp was pool tape pln pap rwd rw ∧ Same (mBlk x) h h'))) := by
  have hB0 := hB
  have r0 := hM 0
  dsimp only [mFs] at hB
  refine RUNM.of (by decide +kernel) (Nat.le_of_ble_eq_true rfl) ?_
  refine r_aload_n (pc := 0) dX11_open_0 rfl (by first | rfl | exact isRefV_rf _) ?_
  refine r_iload_n (pc := 1) dX11_open_1 rfl ?_
  refine r_callV1 (pc := 2) dX11_open_2 qX11_isScope kX11_50 vX11_isScope (by exact isM.gx (by assumption)) rfl rfl (Nat.le_of_ble_eq_true rfl) (m_isScope (d + 1) hB0 ha ⟨by omega, by omega⟩) (fun v_2 h_2 q_2 => ?_)
  obtain ⟨rfl, rfl⟩ := q_2
  refine rj_if_ne (pc := 5) (tgt := 10) dX11_open_5 (by decide) (by first | assumption | exact b01_r | exact bz_r | omega | (constructor <;> omega) | exact hM _ | exact hPo _ | exact hTa _ | exact hRo _) (fun c_5 => ?_) (fun c_5 => ?_)
  · try simp only [b01_0, bz_0, Classical.not_not] at c_5
    refine r_aload_n (pc := 10) dX11_open_10 rfl (by first | rfl | exact isRefV_rf _) ?_
    refine r_iload_n (pc := 11) dX11_open_11 rfl ?_
    refine r_callV1 (pc := 12) dX11_open_12 qX11_isOpen kX11_146 vX11_isOpen (by exact isM.gx (by assumption)) rfl rfl (Nat.le_of_ble_eq_true rfl) (m_isOpen d hB0 hM ⟨by omega, by omega⟩ ha) (fun v_12 h_12 q_12 => ?_)
    obtain ⟨rfl, rfl⟩ := q_12
    refine rj_if_ne (pc := 15) (tgt := 21) dX11_open_15 (by decide) (by first | assumption | exact b01_r | exact bz_r | omega | (constructor <;> omega) | exact hM _ | exact hPo _ | exact hTa _ | exact hRo _) (fun c_15 => ?_) (fun c_15 => ?_)
    · try simp only [b01_0, bz_0, Classical.not_not] at c_15
      refine r_aload_n (pc := 21) dX11_open_21 rfl (by first | rfl | exact isRefV_rf _) ?_
      refine rm_getf (pc := 22) dX11_open_22 fX11_11 (by assumption) rfl ?_
      refine rj_iconst (pc := 25) dX11_open_25 ?_
      refine rj_iald (pc := 26) (j := 0) dX11_open_26 (by first | exact isM.g0 (by assumption) | exact isM.g3 (by assumption) | exact isM.g4 (by assumption) | exact isM.g8 (by assumption) | exact isM.g7 (by assumption) | exact isM.g6 (by assumption) | exact isM.g5 (by assumption) | exact isM.g1 (by assumption) | exact isM.g2 (by assumption)) (by first | assumption | exact b01_r | exact bz_r | omega | (constructor <;> omega) | exact hM _ | exact hPo _ | exact hTa _ | exact hRo _) (by first | assumption | exact b01_r | exact bz_r | omega | (constructor <;> omega) | exact hM _ | exact hPo _ | exact hTa _ | exact hRo _) (by first | assumption | exact b01_r | exact bz_r | omega | (constructor <;> omega) | exact hM _ | exact hPo _ | exact hTa _ | exact hRo _) rfl ?_
      refine rj_bipush (pc := 27) dX11_open_27 (by decide +kernel) ?_
      refine rj_icmp_ne (pc := 29) (tgt := 37) dX11_open_29 (by decide) (by first | assumption | exact b01_r | exact bz_r | omega | (constructor <;> omega) | exact hM _ | exact hPo _ | exact hTa _ | exact hRo _) (by first | assumption | exact b01_r | exact bz_r | omega | (constructor <;> omega) | exact hM _ | exact hPo _ | exact hTa _ | exact hRo _) (fun c_29 => ?_) (fun c_29 => ?_)
      · refine r_aload_n (pc := 37) dX11_open_37 rfl (by first | rfl | exact isRefV_rf _) ?_
        refine r_iload_n (pc := 38) dX11_open_38 rfl ?_
        refine rj_bipush (pc := 39) dX11_open_39 (by decide +kernel) ?_
        refine r_callV2 (pc := 41) dX11_open_41 qX11_opens kX11_186 vX11_opens (by exact isM.gx (by assumption)) rfl rfl (Nat.le_of_ble_eq_true rfl) (m_opens (d + 1) hB0 hC (by omega)) (fun v_41 h_41 q_41 => ?_)
        obtain ⟨rfl, hB_41, hS_41⟩ := q_41
        refine r_ireturn (pc := 44) .int dX11_open_44 rfl (by first | rfl | assumption) ?_
        first
        | (have e1 : openV m a = -4 := by unfold openV; rw [if_pos c_5, if_pos c_15, if_pos c_29]
           exact ⟨by rw [e1], Or.inl ⟨by rw [e1]; decide, rfl⟩⟩)
        | (have e1 : openV m a = (C : Int) := by unfold openV; rw [if_pos c_5, if_pos c_15, if_neg c_29, hC]
           exact ⟨by rw [e1], Or.inr ⟨by rw [e1]; omega, by omega, hB_41, hS_41⟩⟩)
      · refine rj_bipush (pc := 32) dX11_open_32 (by decide +kernel) ?_
        refine r_goto (pc := 34) (tgt := 44) dX11_open_34 (by decide) ?_
        refine r_ireturn (pc := 44) .int dX11_open_44 rfl (by first | rfl | assumption) ?_
        first
        | (have e1 : openV m a = -4 := by unfold openV; rw [if_pos c_5, if_pos c_15, if_pos c_29]
           exact ⟨by rw [e1], Or.inl ⟨by rw [e1]; decide, rfl⟩⟩)
        | (have e1 : openV m a = (C : Int) := by unfold openV; rw [if_pos c_5, if_pos c_15, if_neg c_29, hC]
           exact ⟨by rw [e1], Or.inr ⟨by rw [e1]; omega, by omega, hB_41, hS_41⟩⟩)
    · try simp only [b01_0, bz_0, Classical.not_not] at c_15
      refine rj_bipush (pc := 18) dX11_open_18 (by decide +kernel) ?_
      refine r_ireturn (pc := 20) .int dX11_open_20 rfl (by first | rfl | assumption) ?_
      have e1 : openV m a = -3 := by unfold openV; rw [if_pos c_5, if_neg c_15]
      exact ⟨by rw [e1], Or.inl ⟨by rw [e1]; decide, rfl⟩⟩
  · try simp only [b01_0, bz_0, Classical.not_not] at c_5
    refine rj_iconst (pc := 8) dX11_open_8 ?_
    refine r_ireturn (pc := 9) .int dX11_open_9 rfl (by first | rfl | assumption) ?_
    have e1 : openV m a = -1 := by unfold openV; rw [if_neg c_5]
    exact ⟨by rw [e1], Or.inl ⟨by rw [e1]; decide, rfl⟩⟩
end mg_33
section mg_34
/-! ===== contracts of the reference: texts of steps from their begin; the pool; scopes above ===== -/
def stepsW (sr : Nat → Int) (len : Int) (w : Int) (it : Bool) : PS → Bool × PS := stepsR sr len (stepN sr len 8 w it false)
theorem stepsW_p {sr : Nat → Int} {len w : Int} {it : Bool} : psUp len (stepsW sr len w it) := stepsR_p (stepN_p _ _ _ _)
set_option maxHeartbeats 4000000 in
set_option maxRecDepth 100000 in
theorem m_stepsW {G : mG} {l : Launch} {h : mH} {x s : Nat} {f4 f6 f9 f14 f16 f18 : Int} {q : PS} {m kp was pool tape pln pap rwd rw sr : Nat → Int} (hB : isM h x (mFs x f4 f6 q.1 f9 q.2.1 q.2.2.1 q.2.2.2.1 q.2.2.2.2 f14 f16 f18 s) m kp was pool tape pln pap rwd rw) (hT : txOk s sr pool tape f9) (hq : psOk f9 q) {w : Int} {it : Bool} (h0 : 0 ≤ w) (h3 : w ≤ 3) : RUNM G l 31 mX11_isStepsRead [.ref x, .int (J w), .int (J (bz it))] h (fun v h' => v = some (.int (J (bz (stepsW sr f9 w it q).1))) ∧ isM h' x (mFs x f4 f6 ((stepsW sr f9 w it q).2).1 f9 ((stepsW sr f9 w it q).2).2.1 ((stepsW sr f9 w it q).2).2.2.1 ((stepsW sr f9 w it q).2).2.2.2.1 ((stepsW sr f9 w it q).2).2.2.2.2 f14 f16 f18 s) m kp was pool tape pln pap rwd rw ∧ Same (mBlk x) h h') :=
  m_isStepsRead (D := 30) hB hT hq (stepN_p _ _ _ _) (fun q h hB hq => by
    have y := m_stepN (G := G) (l := l) hT 8 w it false h0 h3 (by simp only [Bool.false_eq_true, if_false]; omega) q h hB hq
    rw [show bz false = 0 from bz_f (by decide)] at y
    exact y)
def stepsInV (pool : Nat → Int) (fr to : Int) (f11 f12 : Int) : Int := if fr = to then 0 else (stepsW pool to 0 true (fr, -1, f11, f12, 90)).2.2.2.2.1
set_option maxHeartbeats 4000000 in
set_option maxRecDepth 100000 in
theorem m_stepsIn {G : mG} {l : Launch} (d : Nat) {h : mH} {x s : Nat} {f4 f6 f8 f9 f10 f11 f12 f13 f14 f16 f18 : Int} {m kp was pool tape pln pap rwd rw : Nat → Int}(hB : isM h x (mFs x f4 f6 f8 f9 f10 f11 f12 f13 f14 f16 f18 s) m kp was pool tape pln pap rwd rw) {a b : Int} (hT : txOk 3 pool pool tape b) (h0 : 0 ≤ a) (h1 : a ≤ b) (h2 : 0 ≤ f11) (h3 : f11 ≤ 99999) : RUNM G l (d + 32) mX11_stepsIn [.ref x, .int (J a), .int (J b)] h (fun v h' => v = some (.int (J (stepsInV pool a b f11 f12))) ∧ ((a = b ∧ h' = h) ∨ (¬ a = b ∧ isM h' x (mFs x f4 f6 (stepsW pool b 0 true (a, -1, f11, f12, 90)).2.1 b (stepsW pool b 0 true (a, -1, f11, f12, 90)).2.2.1 (stepsW pool b 0 true (a, -1, f11, f12, 90)).2.2.2.1 (stepsW pool b 0 true (a, -1, f11, f12, 90)).2.2.2.2.1 (stepsW pool b 0 true (a, -1, f11, f12, 90)).2.2.2.2.2 f14 f16 f18 3) m kp was pool tape pln pap rwd rw ∧ Same (mBlk x) h h'))) := by
  have hB0 := hB
  dsimp only [mFs] at hB
  refine RUNM.of (by decide +kernel) (Nat.le_of_ble_eq_true rfl) ?_
  obtain ⟨ht1, ht2, ht3⟩ := id hT
  have h97 : b ≤ 12342 := by rcases ht1 with h | h <;> omega
  refine r_iload_n (pc := 0) dX11_stepsIn_0 rfl ?_
  refine r_iload_n (pc := 1) dX11_stepsIn_1 rfl ?_
  refine rj_icmp_ne (pc := 2) (tgt := 7) dX11_stepsIn_2 (by decide) (by first | assumption | exact b01_r | exact bz_r | omega | (constructor <;> omega) | exact hM _ | exact hPo _ | exact hTa _ | exact hRo _) (by first | assumption | exact b01_r | exact bz_r | omega | (constructor <;> omega) | exact hM _ | exact hPo _ | exact hTa _ | exact hRo _) (fun c_2 => ?_) (fun c_2 => ?_)
  · refine r_aload_n (pc := 7) dX11_stepsIn_7 rfl (by first | rfl | exact isRefV_rf _) ?_
    refine r_aload_n (pc := 8) dX11_stepsIn_8 rfl (by first | rfl | exact isRefV_rf _) ?_
    refine rm_getf (pc := 9) dX11_stepsIn_9 fX11_21 (by assumption) rfl ?_
    refine r_iload_n (pc := 12) dX11_stepsIn_12 rfl ?_
    refine r_iload_n (pc := 13) dX11_stepsIn_13 rfl ?_
    refine r_callV3 (pc := 14) dX11_stepsIn_14 qX11_begins kX11_115 vX11_begins (by exact isM.gx (by assumption)) rfl rfl (Nat.le_of_ble_eq_true rfl) (m_begins (d + 31) hB0) (fun v_14 h_14 q_14 => ?_)
    obtain ⟨rfl, hB_14, hS_14⟩ := q_14
    dsimp only [mFs] at hB_14
    refine r_aload_n (pc := 17) dX11_stepsIn_17 rfl (by first | rfl | exact isRefV_rf _) ?_
    refine rj_bipush (pc := 18) dX11_stepsIn_18 (by decide +kernel) ?_
    refine rm_putf (pc := 20) dX11_stepsIn_20 fX11_99 (by assumption) rfl rfl (Nat.le_of_ble_eq_true rfl) (fun h_20 hB_20 hS_20 => ?_)
    dsimp only [List.set, mFs] at hB_20
    refine r_aload_n (pc := 23) dX11_stepsIn_23 rfl (by first | rfl | exact isRefV_rf _) ?_
    refine rj_iconst (pc := 24) dX11_stepsIn_24 ?_
    refine rj_iconst (pc := 25) dX11_stepsIn_25 ?_
    refine r_callV2 (pc := 26) dX11_stepsIn_26 qX11_isStepsRead kX11_92 vX11_isStepsRead (by exact isM.gx (by assumption)) rfl rfl (Nat.le_of_ble_eq_true rfl) (by have y := m_stepsW (G := G) (l := l) (q := (a, -1, f11, f12, 90)) (f9 := b) (s := 3) (sr := pool) (w := 0) (it := true) hB_20 hT ⟨h0, h1, Int.le_refl _, (by show (-1 : Int) ≤ b; omega), h2, h3, (by show (0 : Int) ≤ 90; decide), (by show (90 : Int) ≤ a + 90; omega)⟩ (by decide) (by decide); rw [show bz true = 1 from bz_t rfl] at y; exact y.deeper (by omega)) (fun v_26 h_26 q_26 => ?_)
    obtain ⟨rfl, hB_26, hS_26⟩ := q_26
    refine r_pop (pc := 29) dX11_stepsIn_29 (by first | rfl | (cases ‹Option Nat› <;> rfl)) ?_
    refine r_aload_n (pc := 30) dX11_stepsIn_30 rfl (by first | rfl | exact isRefV_rf _) ?_
    refine rm_getf (pc := 31) dX11_stepsIn_31 fX11_112 (by assumption) rfl ?_
    refine r_ireturn (pc := 34) .int dX11_stepsIn_34 rfl (by first | rfl | assumption) ?_
    exact ⟨by unfold stepsInV; rw [if_neg (by omega)], Or.inr ⟨by omega, hB_26, (hS_14.trans hS_20).trans hS_26⟩⟩
  · refine rj_iconst (pc := 5) dX11_stepsIn_5 ?_
    refine r_ireturn (pc := 6) .int dX11_stepsIn_6 rfl (by first | rfl | assumption) ?_
    exact ⟨by unfold stepsInV; rw [if_pos (by omega)], Or.inl ⟨by omega, rfl⟩⟩
def upK (m : Nat → Int) (o : Int) : Nat → Int → Int
  | 0, k => k
  | n + 1, k => if 0 ≤ k ∧ ¬ k = o then upK m o n (m (19 + 4 * k).toNat) else k
def upN (m : Nat → Int) : Nat → Int → Int
  | 0, _ => 0
  | n + 1, k => if 0 ≤ k then 1 + upN m n (m (19 + 4 * k).toNat) else 0
/-- every scope's parent is an elder one, or none (below 0) -/
def parOk (m : Nat → Int) (C : Nat) : Prop := ∀ k : Int, 0 ≤ k → k < C → -5 ≤ m (19 + 4 * k).toNat ∧ m (19 + 4 * k).toNat < k
def belowB (m : Nat → Int) (C : Nat) (o a : Int) : Bool := decide (upK m o C a = o)
set_option maxHeartbeats 4000000 in
set_option maxRecDepth 100000 in
theorem L_isBelow {G : mG} {l : Launch} (d : Nat) {h : mH} {x s : Nat} {f4 f6 f8 f9 f10 f11 f12 f13 f14 f16 f18 : Int} {m kp was pool tape pln pap rwd rw : Nat → Int}(hB : isM h x (mFs x f4 f6 f8 f9 f10 f11 f12 f13 f14 f16 f18 s) m kp was pool tape pln pap rwd rw) {C : Nat} (hC2 : C ≤ 60) (hP : parOk m C) {a o : Int} (ho : InR o) : ∀ (n : Nat) (k : Int), k < n → -5 ≤ k → k < C → RUN G l (d + 1) mX11_isBelow 2 [some (.ref x), some (.int (J a)), some (.int (J o)), some (.int (J k))] [] h (fun v h' => v = some (.int (J (b01 (upK m o n k = o)))) ∧ h' = h) := by
  dsimp only [mFs] at hB
  intro n
  induction n with
  | zero =>
    intro k h1 h2 h3
    refine r_iload_n (pc := 2) dX11_isBelow_2 rfl ?_
    refine rj_if_lt (pc := 3) (tgt := 25) dX11_isBelow_3 (by decide) (by first | assumption | exact b01_r | exact bz_r | omega | (constructor <;> omega) | exact hM _ | exact hPo _ | exact hTa _ | exact hRo _) (fun c_3 => ?_) (fun c_3 => ?_)
    · refine r_iload_n (pc := 25) dX11_isBelow_25 rfl ?_
      refine r_iload_n (pc := 26) dX11_isBelow_26 rfl ?_
      refine rj_icmp_ne (pc := 27) (tgt := 34) dX11_isBelow_27 (by decide) (by first | assumption | exact b01_r | exact bz_r | omega | (constructor <;> omega) | exact hM _ | exact hPo _ | exact hTa _ | exact hRo _) (by first | assumption | exact b01_r | exact bz_r | omega | (constructor <;> omega) | exact hM _ | exact hPo _ | exact hTa _ | exact hRo _) (fun c_27 => ?_) (fun c_27 => ?_)
      · refine rj_iconst (pc := 34) dX11_isBelow_34 ?_
        refine r_ireturn (pc := 35) .boolean dX11_isBelow_35 rfl (by first | exact nar_J0 | exact nar_J1 | exact nar_b01 | exact nar_bz) ?_
        have e1 : upK m o 0 k = k := by rfl
        rw [e1]
        first
        | exact ⟨vt c_27, rfl⟩
        | exact ⟨vf c_27, rfl⟩
      · refine rj_iconst (pc := 30) dX11_isBelow_30 ?_
        refine r_goto (pc := 31) (tgt := 35) dX11_isBelow_31 (by decide) ?_
        refine r_ireturn (pc := 35) .boolean dX11_isBelow_35 rfl (by first | exact nar_J0 | exact nar_J1 | exact nar_b01 | exact nar_bz) ?_
        have e1 : upK m o 0 k = k := by rfl
        rw [e1]
        first
        | exact ⟨vt c_27, rfl⟩
        | exact ⟨vf c_27, rfl⟩
    · exfalso; omega
  | succ n ih =>
    intro k h1 h2 h3
    refine r_iload_n (pc := 2) dX11_isBelow_2 rfl ?_
    refine rj_if_lt (pc := 3) (tgt := 25) dX11_isBelow_3 (by decide) (by first | assumption | exact b01_r | exact bz_r | omega | (constructor <;> omega) | exact hM _ | exact hPo _ | exact hTa _ | exact hRo _) (fun c_3 => ?_) (fun c_3 => ?_)
    · refine r_iload_n (pc := 25) dX11_isBelow_25 rfl ?_
      refine r_iload_n (pc := 26) dX11_isBelow_26 rfl ?_
      refine rj_icmp_ne (pc := 27) (tgt := 34) dX11_isBelow_27 (by decide) (by first | assumption | exact b01_r | exact bz_r | omega | (constructor <;> omega) | exact hM _ | exact hPo _ | exact hTa _ | exact hRo _) (by first | assumption | exact b01_r | exact bz_r | omega | (constructor <;> omega) | exact hM _ | exact hPo _ | exact hTa _ | exact hRo _) (fun c_27 => ?_) (fun c_27 => ?_)
      · refine rj_iconst (pc := 34) dX11_isBelow_34 ?_
        refine r_ireturn (pc := 35) .boolean dX11_isBelow_35 rfl (by first | exact nar_J0 | exact nar_J1 | exact nar_b01 | exact nar_bz) ?_
        have e1 : upK m o (n + 1) k = k := by rw [upK, if_neg (by omega)]
        rw [e1]
        first
        | exact ⟨vt c_27, rfl⟩
        | exact ⟨vf c_27, rfl⟩
      · refine rj_iconst (pc := 30) dX11_isBelow_30 ?_
        refine r_goto (pc := 31) (tgt := 35) dX11_isBelow_31 (by decide) ?_
        refine r_ireturn (pc := 35) .boolean dX11_isBelow_35 rfl (by first | exact nar_J0 | exact nar_J1 | exact nar_b01 | exact nar_bz) ?_
        have e1 : upK m o (n + 1) k = k := by rw [upK, if_neg (by omega)]
        rw [e1]
        first
        | exact ⟨vt c_27, rfl⟩
        | exact ⟨vf c_27, rfl⟩
    · refine r_iload_n (pc := 6) dX11_isBelow_6 rfl ?_
      refine r_iload_n (pc := 7) dX11_isBelow_7 rfl ?_
      refine rj_icmp_eq (pc := 8) (tgt := 25) dX11_isBelow_8 (by decide) (by first | assumption | exact b01_r | exact bz_r | omega | (constructor <;> omega) | exact hM _ | exact hPo _ | exact hTa _ | exact hRo _) (by first | assumption | exact b01_r | exact bz_r | omega | (constructor <;> omega) | exact hM _ | exact hPo _ | exact hTa _ | exact hRo _) (fun c_8 => ?_) (fun c_8 => ?_)
      · refine r_iload_n (pc := 25) dX11_isBelow_25 rfl ?_
        refine r_iload_n (pc := 26) dX11_isBelow_26 rfl ?_
        refine rj_icmp_ne (pc := 27) (tgt := 34) dX11_isBelow_27 (by decide) (by first | assumption | exact b01_r | exact bz_r | omega | (constructor <;> omega) | exact hM _ | exact hPo _ | exact hTa _ | exact hRo _) (by first | assumption | exact b01_r | exact bz_r | omega | (constructor <;> omega) | exact hM _ | exact hPo _ | exact hTa _ | exact hRo _) (fun c_27 => ?_) (fun c_27 => ?_)
        · refine rj_iconst (pc := 34) dX11_isBelow_34 ?_
          refine r_ireturn (pc := 35) .boolean dX11_isBelow_35 rfl (by first | exact nar_J0 | exact nar_J1 | exact nar_b01 | exact nar_bz) ?_
          have e1 : upK m o (n + 1) k = k := by rw [upK, if_neg (by omega)]
          rw [e1]
          first
          | exact ⟨vt c_27, rfl⟩
          | exact ⟨vf c_27, rfl⟩
        · refine rj_iconst (pc := 30) dX11_isBelow_30 ?_
          refine r_goto (pc := 31) (tgt := 35) dX11_isBelow_31 (by decide) ?_
          refine r_ireturn (pc := 35) .boolean dX11_isBelow_35 rfl (by first | exact nar_J0 | exact nar_J1 | exact nar_b01 | exact nar_bz) ?_
          have e1 : upK m o (n + 1) k = k := by rw [upK, if_neg (by omega)]
          rw [e1]
          first
          | exact ⟨vt c_27, rfl⟩
          | exact ⟨vf c_27, rfl⟩
      · refine r_aload_n (pc := 11) dX11_isBelow_11 rfl (by first | rfl | exact isRefV_rf _) ?_
        refine rm_getf (pc := 12) dX11_isBelow_12 fX11_11 (by assumption) rfl ?_
        refine r_iload_n (pc := 15) dX11_isBelow_15 rfl ?_
        refine rj_iconst (pc := 16) dX11_isBelow_16 ?_
        refine r_callS2 (pc := 17) dX11_isBelow_17 qX11_ofScope kX11_42 sX11_ofScope (Nat.le_of_ble_eq_true rfl) (m_ofScope d) (fun v_17 h_17 q_17 => ?_)
        obtain ⟨rfl, rfl⟩ := q_17
        refine rj_iald (pc := 20) (j := (19 + 4 * k).toNat) dX11_isBelow_20 (by first | exact isM.g0 (by assumption) | exact isM.g3 (by assumption) | exact isM.g4 (by assumption) | exact isM.g8 (by assumption) | exact isM.g7 (by assumption) | exact isM.g6 (by assumption) | exact isM.g5 (by assumption) | exact isM.g1 (by assumption) | exact isM.g2 (by assumption)) (by first | assumption | exact b01_r | exact bz_r | omega | (constructor <;> omega) | exact hM _ | exact hPo _ | exact hTa _ | exact hRo _) (by first | assumption | exact b01_r | exact bz_r | omega | (constructor <;> omega) | exact hM _ | exact hPo _ | exact hTa _ | exact hRo _) (by first | assumption | exact b01_r | exact bz_r | omega | (constructor <;> omega) | exact hM _ | exact hPo _ | exact hTa _ | exact hRo _) (by omega) ?_
        refine r_istore_n (pc := 21) dX11_isBelow_21 (Nat.le_of_ble_eq_true rfl) ?_
        dsimp only [lsSt, List.set, mLs, mEnt]
        refine r_goto (pc := 22) (tgt := 2) dX11_isBelow_22 (by decide) ?_
        obtain ⟨p1, p2⟩ := hP k (by omega) h3
        have z := ih _ (by omega) p1 (by omega)
        rw [show upK m o (n + 1) k = upK m o n (m (19 + 4 * k).toNat) by rw [upK, if_pos ⟨by omega, c_8⟩]]
        exact z
set_option maxHeartbeats 4000000 in
set_option maxRecDepth 100000 in
theorem m_isBelow {G : mG} {l : Launch} (d : Nat) {h : mH} {x s : Nat} {f4 f6 f8 f9 f10 f11 f12 f13 f14 f16 f18 : Int} {m kp was pool tape pln pap rwd rw : Nat → Int}(hB : isM h x (mFs x f4 f6 f8 f9 f10 f11 f12 f13 f14 f16 f18 s) m kp was pool tape pln pap rwd rw) {C : Nat} (hC2 : C ≤ 60) (hP : parOk m C) {a o : Int} (ho : InR o) (ha : -5 ≤ a) (ha2 : a < C) : RUNM G l (d + 1) mX11_isBelow [.ref x, .int (J a), .int (J o)] h (fun v h' => v = some (.int (J (bz (belowB m C o a)))) ∧ h' = h) := by
  refine RUNM.of (by decide +kernel) (Nat.le_of_ble_eq_true rfl) ?_
  refine r_iload_n (pc := 0) dX11_isBelow_0 rfl ?_
  refine r_istore_n (pc := 1) dX11_isBelow_1 (Nat.le_of_ble_eq_true rfl) ?_
  dsimp only [lsSt, List.set, mLs, mEnt]
  have z := L_isBelow (G := G) (l := l) d (a := a) hB hC2 hP ho C a ha2 ha ha2
  unfold belowB
  rw [bz_d]
  exact z
set_option maxHeartbeats 4000000 in
set_option maxRecDepth 100000 in
theorem L_above {G : mG} {l : Launch} (d : Nat) {h : mH} {x s : Nat} {f4 f6 f8 f9 f10 f11 f12 f13 f14 f16 f18 : Int} {m kp was pool tape pln pap rwd rw : Nat → Int}(hB : isM h x (mFs x f4 f6 f8 f9 f10 f11 f12 f13 f14 f16 f18 s) m kp was pool tape pln pap rwd rw) {C : Nat} (hC2 : C ≤ 60) (hP : parOk m C) {a : Int} : ∀ (n : Nat) (k c : Int), k < n → -5 ≤ k → k < C → RUN G l (d + 1) mX11_above 13 [some (.ref x), some (.int (J a)), some (.int (J c)), some (.int (J k))] [] h (fun v h' => v = some (.int (J (c + upN m n k))) ∧ h' = h) := by
  dsimp only [mFs] at hB
  intro n
  induction n with
  | zero =>
    intro k c h1 h2 h3
    refine r_iload_n (pc := 13) dX11_above_13 rfl ?_
    refine rj_if_lt (pc := 14) (tgt := 34) dX11_above_14 (by decide) (by first | assumption | exact b01_r | exact bz_r | omega | (constructor <;> omega) | exact hM _ | exact hPo _ | exact hTa _ | exact hRo _) (fun c_14 => ?_) (fun c_14 => ?_)
    · refine r_iload_n (pc := 34) dX11_above_34 rfl ?_
      refine r_ireturn (pc := 35) .int dX11_above_35 rfl (by first | rfl | assumption) ?_
      exact ⟨by rw [upN, Int.add_zero], rfl⟩
    · exfalso; omega
  | succ n ih =>
    intro k c h1 h2 h3
    refine r_iload_n (pc := 13) dX11_above_13 rfl ?_
    refine rj_if_lt (pc := 14) (tgt := 34) dX11_above_14 (by decide) (by first | assumption | exact b01_r | exact bz_r | omega | (constructor <;> omega) | exact hM _ | exact hPo _ | exact hTa _ | exact hRo _) (fun c_14 => ?_) (fun c_14 => ?_)
    · refine r_iload_n (pc := 34) dX11_above_34 rfl ?_
      refine r_ireturn (pc := 35) .int dX11_above_35 rfl (by first | rfl | assumption) ?_
      exact ⟨by rw [upN, if_neg (by omega), Int.add_zero], rfl⟩
    · refine rj_iinc (pc := 17) dX11_above_17 (Nat.le_of_ble_eq_true rfl) rfl ?_
      dsimp only [lsSt, List.set, mLs, mEnt]
      refine r_aload_n (pc := 20) dX11_above_20 rfl (by first | rfl | exact isRefV_rf _) ?_
      refine rm_getf (pc := 21) dX11_above_21 fX11_11 (by assumption) rfl ?_
      refine r_iload_n (pc := 24) dX11_above_24 rfl ?_
      refine rj_iconst (pc := 25) dX11_above_25 ?_
      refine r_callS2 (pc := 26) dX11_above_26 qX11_ofScope kX11_42 sX11_ofScope (Nat.le_of_ble_eq_true rfl) (m_ofScope d) (fun v_26 h_26 q_26 => ?_)
      obtain ⟨rfl, rfl⟩ := q_26
      refine rj_iald (pc := 29) (j := (19 + 4 * k).toNat) dX11_above_29 (by first | exact isM.g0 (by assumption) | exact isM.g3 (by assumption) | exact isM.g4 (by assumption) | exact isM.g8 (by assumption) | exact isM.g7 (by assumption) | exact isM.g6 (by assumption) | exact isM.g5 (by assumption) | exact isM.g1 (by assumption) | exact isM.g2 (by assumption)) (by first | assumption | exact b01_r | exact bz_r | omega | (constructor <;> omega) | exact hM _ | exact hPo _ | exact hTa _ | exact hRo _) (by first | assumption | exact b01_r | exact bz_r | omega | (constructor <;> omega) | exact hM _ | exact hPo _ | exact hTa _ | exact hRo _) (by first | assumption | exact b01_r | exact bz_r | omega | (constructor <;> omega) | exact hM _ | exact hPo _ | exact hTa _ | exact hRo _) (by omega) ?_
      refine r_istore_n (pc := 30) dX11_above_30 (Nat.le_of_ble_eq_true rfl) ?_
      dsimp only [lsSt, List.set, mLs, mEnt]
      refine r_goto (pc := 31) (tgt := 13) dX11_above_31 (by decide) ?_
      obtain ⟨p1, p2⟩ := hP k (by omega) h3
      have z := ih _ (c + 1) (by omega) p1 (by omega)
      rw [show c + upN m (n + 1) k = c + 1 + upN m n (m (19 + 4 * k).toNat) by rw [upN, if_pos (by omega)]; omega]
      exact z
set_option maxHeartbeats 4000000 in
set_option maxRecDepth 100000 in
theorem m_above {G : mG} {l : Launch} (d : Nat) {h : mH} {x s : Nat} {f4 f6 f8 f9 f10 f11 f12 f13 f14 f16 f18 : Int} {m kp was pool tape pln pap rwd rw : Nat → Int}(hB : isM h x (mFs x f4 f6 f8 f9 f10 f11 f12 f13 f14 f16 f18 s) m kp was pool tape pln pap rwd rw) {C : Nat} (hC2 : C ≤ 60) (hP : parOk m C) {a : Int} (h0 : 0 ≤ a) (ha2 : a < C) : RUNM G l (d + 1) mX11_above [.ref x, .int (J a)] h (fun v h' => v = some (.int (J (upN m C (m (19 + 4 * a).toNat)))) ∧ h' = h) := by
  have hB0 := hB
  dsimp only [mFs] at hB
  refine RUNM.of (by decide +kernel) (Nat.le_of_ble_eq_true rfl) ?_
  obtain ⟨p1, p2⟩ := hP a h0 ha2
  refine rj_iconst (pc := 0) dX11_above_0 ?_
  refine r_istore_n (pc := 1) dX11_above_1 (Nat.le_of_ble_eq_true rfl) ?_
  dsimp only [lsSt, List.set, mLs, mEnt]
  refine r_aload_n (pc := 2) dX11_above_2 rfl (by first | rfl | exact isRefV_rf _) ?_
  refine rm_getf (pc := 3) dX11_above_3 fX11_11 (by assumption) rfl ?_
  refine r_iload_n (pc := 6) dX11_above_6 rfl ?_
  refine rj_iconst (pc := 7) dX11_above_7 ?_
  refine r_callS2 (pc := 8) dX11_above_8 qX11_ofScope kX11_42 sX11_ofScope (Nat.le_of_ble_eq_true rfl) (m_ofScope d) (fun v_8 h_8 q_8 => ?_)
  obtain ⟨rfl, rfl⟩ := q_8
  refine rj_iald (pc := 11) (j := (19 + 4 * a).toNat) dX11_above_11 (by first | exact isM.g0 (by assumption) | exact isM.g3 (by assumption) | exact isM.g4 (by assumption) | exact isM.g8 (by assumption) | exact isM.g7 (by assumption) | exact isM.g6 (by assumption) | exact isM.g5 (by assumption) | exact isM.g1 (by assumption) | exact isM.g2 (by assumption)) (by first | assumption | exact b01_r | exact bz_r | omega | (constructor <;> omega) | exact hM _ | exact hPo _ | exact hTa _ | exact hRo _) (by first | assumption | exact b01_r | exact bz_r | omega | (constructor <;> omega) | exact hM _ | exact hPo _ | exact hTa _ | exact hRo _) (by first | assumption | exact b01_r | exact bz_r | omega | (constructor <;> omega) | exact hM _ | exact hPo _ | exact hTa _ | exact hRo _) (by omega) ?_
  refine r_istore_n (pc := 12) dX11_above_12 (Nat.le_of_ble_eq_true rfl) ?_
  dsimp only [lsSt, List.set, mLs, mEnt]
  have z := L_above (G := G) (l := l) d (a := a) hB0 hC2 hP C (m (19 + 4 * a).toNat) 0 (by omega) p1 (by omega)
  rw [Int.zero_add] at z
  exact z
def heldInB (m : Nat → Int) (C : Nat) (o : Int) (t : Nat) : Bool := heldB m t && belowB m C o (m (259 + 14 * t))
def ownOk (m : Nat → Int) (N C : Nat) : Prop := ∀ t, t < N → 0 ≤ m (259 + 14 * t) ∧ m (259 + 14 * t) < C
set_option maxHeartbeats 4000000 in
set_option maxRecDepth 100000 in
theorem L_heldIn {G : mG} {l : Launch} (d : Nat) {h : mH} {x s : Nat} {f4 f6 f8 f9 f10 f11 f12 f13 f14 f16 f18 : Int} {m kp was pool tape pln pap rwd rw : Nat → Int}(hB : isM h x (mFs x f4 f6 f8 f9 f10 f11 f12 f13 f14 f16 f18 s) m kp was pool tape pln pap rwd rw) (hM : ∀ q, InR (m q)) {N : Nat} (hN : m 1 = (N : Int)) (hcap : N ≤ 90) {C : Nat} (hC2 : C ≤ 60) (hP : parOk m C) (hO : ownOk m N C) {a : Int} (ha : InR a) : ∀ k t : Nat, t + k = N → RUN G l (d + 3) mX11_heldIn 4 [some (.ref x), some (.int (J a)), some (.int (J (cnt (heldInB m C a) t))), some (.int (J ((t : Int))))] [] h (fun v h' => v = some (.int (J (cnt (heldInB m C a) N))) ∧ h' = h) := by
  dsimp only [mFs] at hB
  have rN := hM 1
  intro k
  induction k with
  | zero =>
    intro t ht
    refine r_iload_n (pc := 4) dX11_heldIn_4 rfl ?_
    refine r_aload_n (pc := 5) dX11_heldIn_5 rfl (by first | rfl | exact isRefV_rf _) ?_
    refine rm_getf (pc := 6) dX11_heldIn_6 fX11_11 (by assumption) rfl ?_
    refine rj_iconst (pc := 9) dX11_heldIn_9 ?_
    refine rj_iald (pc := 10) (j := 1) dX11_heldIn_10 (by first | exact isM.g0 (by assumption) | exact isM.g3 (by assumption) | exact isM.g4 (by assumption) | exact isM.g8 (by assumption) | exact isM.g7 (by assumption) | exact isM.g6 (by assumption) | exact isM.g5 (by assumption) | exact isM.g1 (by assumption) | exact isM.g2 (by assumption)) (by first | assumption | exact b01_r | exact bz_r | omega | (constructor <;> omega) | exact hM _ | exact hPo _ | exact hTa _ | exact hRo _) (by first | assumption | exact b01_r | exact bz_r | omega | (constructor <;> omega) | exact hM _ | exact hPo _ | exact hTa _ | exact hRo _) (by first | assumption | exact b01_r | exact bz_r | omega | (constructor <;> omega) | exact hM _ | exact hPo _ | exact hTa _ | exact hRo _) rfl ?_
    refine rj_icmp_ge (pc := 11) (tgt := 55) dX11_heldIn_11 (by decide) (by first | assumption | exact b01_r | exact bz_r | omega | (constructor <;> omega) | exact hM _ | exact hPo _ | exact hTa _ | exact hRo _) (by first | assumption | exact b01_r | exact bz_r | omega | (constructor <;> omega) | exact hM _ | exact hPo _ | exact hTa _ | exact hRo _) (fun c_11 => ?_) (fun c_11 => ?_)
    · refine r_iload_n (pc := 55) dX11_heldIn_55 rfl ?_
      refine r_ireturn (pc := 56) .int dX11_heldIn_56 rfl (by first | rfl | assumption) ?_
      have e : t = N := by omega
      subst e
      exact ⟨rfl, rfl⟩
    · refine r_iload_n (pc := 14) dX11_heldIn_14 rfl ?_
      refine r_aload_n (pc := 15) dX11_heldIn_15 rfl (by first | rfl | exact isRefV_rf _) ?_
      refine r_iload_n (pc := 16) dX11_heldIn_16 rfl ?_
      refine r_callV1 (pc := 17) dX11_heldIn_17 qX11_isHeld kX11_119 vX11_isHeld (by exact isM.gx (by assumption)) rfl rfl (Nat.le_of_ble_eq_true rfl) (m_isHeld (d + 1) hB hM (by omega) (by omega)) (fun v_17 h_17 q_17 => ?_)
      obtain ⟨rfl, rfl⟩ := q_17
      refine rj_if_eq (pc := 20) (tgt := 46) dX11_heldIn_20 (by decide) (by first | assumption | exact b01_r | exact bz_r | omega | (constructor <;> omega) | exact hM _ | exact hPo _ | exact hTa _ | exact hRo _) (fun c_20 => ?_) (fun c_20 => ?_)
      · try simp only [b01_0, bz_0, Classical.not_not] at c_20
        refine rj_iconst (pc := 46) dX11_heldIn_46 ?_
        refine rj_iadd (pc := 47) dX11_heldIn_47 ?_
        refine r_istore_n (pc := 48) dX11_heldIn_48 (Nat.le_of_ble_eq_true rfl) ?_
        dsimp only [lsSt, List.set, mLs, mEnt]
        refine rj_iinc (pc := 49) dX11_heldIn_49 (Nat.le_of_ble_eq_true rfl) rfl ?_
        dsimp only [lsSt, List.set, mLs, mEnt]
        refine r_goto (pc := 52) (tgt := 4) dX11_heldIn_52 (by decide) ?_
        exfalso; omega
      · try simp only [b01_0, bz_0, Classical.not_not] at c_20
        refine r_aload_n (pc := 23) dX11_heldIn_23 rfl (by first | rfl | exact isRefV_rf _) ?_
        refine r_aload_n (pc := 24) dX11_heldIn_24 rfl (by first | rfl | exact isRefV_rf _) ?_
        refine rm_getf (pc := 25) dX11_heldIn_25 fX11_11 (by assumption) rfl ?_
        refine r_iload_n (pc := 28) dX11_heldIn_28 rfl ?_
        refine rj_iconst (pc := 29) dX11_heldIn_29 ?_
        refine rj_iconst (pc := 30) dX11_heldIn_30 ?_
        refine r_callS3 (pc := 31) dX11_heldIn_31 qX11_ofThing kX11_54 sX11_ofThing (Nat.le_of_ble_eq_true rfl) (m_ofThing (d + 2)) (fun v_31 h_31 q_31 => ?_)
        obtain ⟨rfl, rfl⟩ := q_31
        refine rj_iald (pc := 34) (j := 259 + 14 * t) dX11_heldIn_34 (by first | exact isM.g0 (by assumption) | exact isM.g3 (by assumption) | exact isM.g4 (by assumption) | exact isM.g8 (by assumption) | exact isM.g7 (by assumption) | exact isM.g6 (by assumption) | exact isM.g5 (by assumption) | exact isM.g1 (by assumption) | exact isM.g2 (by assumption)) (by first | assumption | exact b01_r | exact bz_r | omega | (constructor <;> omega) | exact hM _ | exact hPo _ | exact hTa _ | exact hRo _) (by first | assumption | exact b01_r | exact bz_r | omega | (constructor <;> omega) | exact hM _ | exact hPo _ | exact hTa _ | exact hRo _) (by first | assumption | exact b01_r | exact bz_r | omega | (constructor <;> omega) | exact hM _ | exact hPo _ | exact hTa _ | exact hRo _) (by omega) ?_
        refine r_iload_n (pc := 35) dX11_heldIn_35 rfl ?_
        refine r_callV2 (pc := 36) dX11_heldIn_36 qX11_isBelow kX11_246 vX11_isBelow (by exact isM.gx (by assumption)) rfl rfl (Nat.le_of_ble_eq_true rfl) (m_isBelow (d + 1) hB hC2 hP ha (by have := hO t (by omega); omega) (by have := hO t (by omega); omega)) (fun v_36 h_36 q_36 => ?_)
        obtain ⟨rfl, rfl⟩ := q_36
        refine rj_if_eq (pc := 39) (tgt := 46) dX11_heldIn_39 (by decide) (by first | assumption | exact b01_r | exact bz_r | omega | (constructor <;> omega) | exact hM _ | exact hPo _ | exact hTa _ | exact hRo _) (fun c_39 => ?_) (fun c_39 => ?_)
        · try simp only [b01_0, bz_0, Classical.not_not] at c_39
          refine rj_iconst (pc := 46) dX11_heldIn_46 ?_
          refine rj_iadd (pc := 47) dX11_heldIn_47 ?_
          refine r_istore_n (pc := 48) dX11_heldIn_48 (Nat.le_of_ble_eq_true rfl) ?_
          dsimp only [lsSt, List.set, mLs, mEnt]
          refine rj_iinc (pc := 49) dX11_heldIn_49 (Nat.le_of_ble_eq_true rfl) rfl ?_
          dsimp only [lsSt, List.set, mLs, mEnt]
          refine r_goto (pc := 52) (tgt := 4) dX11_heldIn_52 (by decide) ?_
          exfalso; omega
        · try simp only [b01_0, bz_0, Classical.not_not] at c_39
          refine rj_iconst (pc := 42) dX11_heldIn_42 ?_
          refine r_goto (pc := 43) (tgt := 47) dX11_heldIn_43 (by decide) ?_
          refine rj_iadd (pc := 47) dX11_heldIn_47 ?_
          refine r_istore_n (pc := 48) dX11_heldIn_48 (Nat.le_of_ble_eq_true rfl) ?_
          dsimp only [lsSt, List.set, mLs, mEnt]
          refine rj_iinc (pc := 49) dX11_heldIn_49 (Nat.le_of_ble_eq_true rfl) rfl ?_
          dsimp only [lsSt, List.set, mLs, mEnt]
          refine r_goto (pc := 52) (tgt := 4) dX11_heldIn_52 (by decide) ?_
          exfalso; omega
  | succ k ih =>
    intro t ht
    refine r_iload_n (pc := 4) dX11_heldIn_4 rfl ?_
    refine r_aload_n (pc := 5) dX11_heldIn_5 rfl (by first | rfl | exact isRefV_rf _) ?_
    refine rm_getf (pc := 6) dX11_heldIn_6 fX11_11 (by assumption) rfl ?_
    refine rj_iconst (pc := 9) dX11_heldIn_9 ?_
    refine rj_iald (pc := 10) (j := 1) dX11_heldIn_10 (by first | exact isM.g0 (by assumption) | exact isM.g3 (by assumption) | exact isM.g4 (by assumption) | exact isM.g8 (by assumption) | exact isM.g7 (by assumption) | exact isM.g6 (by assumption) | exact isM.g5 (by assumption) | exact isM.g1 (by assumption) | exact isM.g2 (by assumption)) (by first | assumption | exact b01_r | exact bz_r | omega | (constructor <;> omega) | exact hM _ | exact hPo _ | exact hTa _ | exact hRo _) (by first | assumption | exact b01_r | exact bz_r | omega | (constructor <;> omega) | exact hM _ | exact hPo _ | exact hTa _ | exact hRo _) (by first | assumption | exact b01_r | exact bz_r | omega | (constructor <;> omega) | exact hM _ | exact hPo _ | exact hTa _ | exact hRo _) rfl ?_
    refine rj_icmp_ge (pc := 11) (tgt := 55) dX11_heldIn_11 (by decide) (by first | assumption | exact b01_r | exact bz_r | omega | (constructor <;> omega) | exact hM _ | exact hPo _ | exact hTa _ | exact hRo _) (by first | assumption | exact b01_r | exact bz_r | omega | (constructor <;> omega) | exact hM _ | exact hPo _ | exact hTa _ | exact hRo _) (fun c_11 => ?_) (fun c_11 => ?_)
    · refine r_iload_n (pc := 55) dX11_heldIn_55 rfl ?_
      refine r_ireturn (pc := 56) .int dX11_heldIn_56 rfl (by first | rfl | assumption) ?_
      exfalso; omega
    · refine r_iload_n (pc := 14) dX11_heldIn_14 rfl ?_
      refine r_aload_n (pc := 15) dX11_heldIn_15 rfl (by first | rfl | exact isRefV_rf _) ?_
      refine r_iload_n (pc := 16) dX11_heldIn_16 rfl ?_
      refine r_callV1 (pc := 17) dX11_heldIn_17 qX11_isHeld kX11_119 vX11_isHeld (by exact isM.gx (by assumption)) rfl rfl (Nat.le_of_ble_eq_true rfl) (m_isHeld (d + 1) hB hM (by omega) (by omega)) (fun v_17 h_17 q_17 => ?_)
      obtain ⟨rfl, rfl⟩ := q_17
      refine rj_if_eq (pc := 20) (tgt := 46) dX11_heldIn_20 (by decide) (by first | assumption | exact b01_r | exact bz_r | omega | (constructor <;> omega) | exact hM _ | exact hPo _ | exact hTa _ | exact hRo _) (fun c_20 => ?_) (fun c_20 => ?_)
      · try simp only [b01_0, bz_0, Classical.not_not] at c_20
        refine rj_iconst (pc := 46) dX11_heldIn_46 ?_
        refine rj_iadd (pc := 47) dX11_heldIn_47 ?_
        refine r_istore_n (pc := 48) dX11_heldIn_48 (Nat.le_of_ble_eq_true rfl) ?_
        dsimp only [lsSt, List.set, mLs, mEnt]
        refine rj_iinc (pc := 49) dX11_heldIn_49 (Nat.le_of_ble_eq_true rfl) rfl ?_
        dsimp only [lsSt, List.set, mLs, mEnt]
        refine r_goto (pc := 52) (tgt := 4) dX11_heldIn_52 (by decide) ?_
        have z := ih (t + 1) (by omega)
        rw [← cnt_f (by simp only [n_held] at *; unfold heldInB heldB; simp [c_20])] at z
        exact z
      · try simp only [b01_0, bz_0, Classical.not_not] at c_20
        refine r_aload_n (pc := 23) dX11_heldIn_23 rfl (by first | rfl | exact isRefV_rf _) ?_
        refine r_aload_n (pc := 24) dX11_heldIn_24 rfl (by first | rfl | exact isRefV_rf _) ?_
        refine rm_getf (pc := 25) dX11_heldIn_25 fX11_11 (by assumption) rfl ?_
        refine r_iload_n (pc := 28) dX11_heldIn_28 rfl ?_
        refine rj_iconst (pc := 29) dX11_heldIn_29 ?_
        refine rj_iconst (pc := 30) dX11_heldIn_30 ?_
        refine r_callS3 (pc := 31) dX11_heldIn_31 qX11_ofThing kX11_54 sX11_ofThing (Nat.le_of_ble_eq_true rfl) (m_ofThing (d + 2)) (fun v_31 h_31 q_31 => ?_)
        obtain ⟨rfl, rfl⟩ := q_31
        refine rj_iald (pc := 34) (j := 259 + 14 * t) dX11_heldIn_34 (by first | exact isM.g0 (by assumption) | exact isM.g3 (by assumption) | exact isM.g4 (by assumption) | exact isM.g8 (by assumption) | exact isM.g7 (by assumption) | exact isM.g6 (by assumption) | exact isM.g5 (by assumption) | exact isM.g1 (by assumption) | exact isM.g2 (by assumption)) (by first | assumption | exact b01_r | exact bz_r | omega | (constructor <;> omega) | exact hM _ | exact hPo _ | exact hTa _ | exact hRo _) (by first | assumption | exact b01_r | exact bz_r | omega | (constructor <;> omega) | exact hM _ | exact hPo _ | exact hTa _ | exact hRo _) (by first | assumption | exact b01_r | exact bz_r | omega | (constructor <;> omega) | exact hM _ | exact hPo _ | exact hTa _ | exact hRo _) (by omega) ?_
        refine r_iload_n (pc := 35) dX11_heldIn_35 rfl ?_
        refine r_callV2 (pc := 36) dX11_heldIn_36 qX11_isBelow kX11_246 vX11_isBelow (by exact isM.gx (by assumption)) rfl rfl (Nat.le_of_ble_eq_true rfl) (m_isBelow (d + 1) hB hC2 hP ha (by have := hO t (by omega); omega) (by have := hO t (by omega); omega)) (fun v_36 h_36 q_36 => ?_)
        obtain ⟨rfl, rfl⟩ := q_36
        refine rj_if_eq (pc := 39) (tgt := 46) dX11_heldIn_39 (by decide) (by first | assumption | exact b01_r | exact bz_r | omega | (constructor <;> omega) | exact hM _ | exact hPo _ | exact hTa _ | exact hRo _) (fun c_39 => ?_) (fun c_39 => ?_)
        · try simp only [b01_0, bz_0, Classical.not_not] at c_39
          refine rj_iconst (pc := 46) dX11_heldIn_46 ?_
          refine rj_iadd (pc := 47) dX11_heldIn_47 ?_
          refine r_istore_n (pc := 48) dX11_heldIn_48 (Nat.le_of_ble_eq_true rfl) ?_
          dsimp only [lsSt, List.set, mLs, mEnt]
          refine rj_iinc (pc := 49) dX11_heldIn_49 (Nat.le_of_ble_eq_true rfl) rfl ?_
          dsimp only [lsSt, List.set, mLs, mEnt]
          refine r_goto (pc := 52) (tgt := 4) dX11_heldIn_52 (by decide) ?_
          have z := ih (t + 1) (by omega)
          rw [← cnt_f (by simp only [n_held] at *; unfold heldInB heldB; simp [c_39])] at z
          exact z
        · try simp only [b01_0, bz_0, Classical.not_not] at c_39
          refine rj_iconst (pc := 42) dX11_heldIn_42 ?_
          refine r_goto (pc := 43) (tgt := 47) dX11_heldIn_43 (by decide) ?_
          refine rj_iadd (pc := 47) dX11_heldIn_47 ?_
          refine r_istore_n (pc := 48) dX11_heldIn_48 (Nat.le_of_ble_eq_true rfl) ?_
          dsimp only [lsSt, List.set, mLs, mEnt]
          refine rj_iinc (pc := 49) dX11_heldIn_49 (Nat.le_of_ble_eq_true rfl) rfl ?_
          dsimp only [lsSt, List.set, mLs, mEnt]
          refine r_goto (pc := 52) (tgt := 4) dX11_heldIn_52 (by decide) ?_
          have z := ih (t + 1) (by omega)
          rw [← cnt_t (by simp only [n_held] at *; unfold heldInB heldB; simp [c_20, c_39])] at z
          exact z
set_option maxHeartbeats 4000000 in
set_option maxRecDepth 100000 in
theorem m_heldIn {G : mG} {l : Launch} (d : Nat) {h : mH} {x s : Nat} {f4 f6 f8 f9 f10 f11 f12 f13 f14 f16 f18 : Int} {m kp was pool tape pln pap rwd rw : Nat → Int}(hB : isM h x (mFs x f4 f6 f8 f9 f10 f11 f12 f13 f14 f16 f18 s) m kp was pool tape pln pap rwd rw) (hM : ∀ q, InR (m q)) {N : Nat} (hN : m 1 = (N : Int)) (hcap : N ≤ 90) {C : Nat} (hC2 : C ≤ 60) (hP : parOk m C) (hO : ownOk m N C) {a : Int} (ha : InR a) : RUNM G l (d + 3) mX11_heldIn [.ref x, .int (J a)] h (fun v h' => v = some (.int (J (cnt (heldInB m C a) N))) ∧ h' = h) := by
  refine RUNM.of (by decide +kernel) (Nat.le_of_ble_eq_true rfl) ?_
  refine rj_iconst (pc := 0) dX11_heldIn_0 ?_
  refine r_istore_n (pc := 1) dX11_heldIn_1 (Nat.le_of_ble_eq_true rfl) ?_
  dsimp only [lsSt, List.set, mLs, mEnt]
  refine rj_iconst (pc := 2) dX11_heldIn_2 ?_
  refine r_istore_n (pc := 3) dX11_heldIn_3 (Nat.le_of_ble_eq_true rfl) ?_
  dsimp only [lsSt, List.set, mLs, mEnt]
  exact L_heldIn d hB hM hN hcap hC2 hP hO ha N 0 (by omega)
end mg_34
section mg_35
/-! ===== contracts of the reference: entries by their stamps ===== -/
def stampV (m : Nat → Int) (e : Nat) : Int := if e < 100 then m (260 + 14 * e) else m (20 + 4 * (e - 100))
abbrev entryP (m : Nat → Int) (N C : Nat) (a : Int) (e : Nat) : Prop := if e < 100 then (e < N ∧ m (258 + 14 * e) = 0 ∧ m (259 + 14 * e) = a) else (e < C + 100 ∧ 100 < e ∧ ¬ m (18 + 4 * (e - 100)) = 2 ∧ m (19 + 4 * (e - 100)) = a)
theorem entryP_t {m : Nat → Int} {N C e : Nat} {a : Int} (h : e < 100) : entryP m N C a e ↔ (e < N ∧ m (258 + 14 * e) = 0 ∧ m (259 + 14 * e) = a) := by unfold entryP; rw [if_pos h]
theorem entryP_s {m : Nat → Int} {N C e : Nat} {a : Int} (h : ¬ e < 100) : entryP m N C a e ↔ (e < C + 100 ∧ 100 < e ∧ ¬ m (18 + 4 * (e - 100)) = 2 ∧ m (19 + 4 * (e - 100)) = a) := by unfold entryP; rw [if_neg h]
set_option maxHeartbeats 4000000 in
set_option maxRecDepth 100000 in
theorem m_stampOf {G : mG} {l : Launch} (d : Nat) {h : mH} {x s : Nat} {f4 f6 f8 f9 f10 f11 f12 f13 f14 f16 f18 : Int} {m kp was pool tape pln pap rwd rw : Nat → Int}(hB : isM h x (mFs x f4 f6 f8 f9 f10 f11 f12 f13 f14 f16 f18 s) m kp was pool tape pln pap rwd rw) {e : Nat} (he : e ≤ 159) : RUNM G l (d + 1) mX11_stampOf [.ref x, .int (J (e : Int))] h (fun v h' => v = some (.int (J (stampV m e))) ∧ h' = h) := by
  dsimp only [mFs] at hB
  refine RUNM.of (by decide +kernel) (Nat.le_of_ble_eq_true rfl) ?_
  refine r_iload_n (pc := 0) dX11_stampOf_0 rfl ?_
  refine rj_bipush (pc := 1) dX11_stampOf_1 (by decide +kernel) ?_
  refine rj_icmp_ge (pc := 3) (tgt := 20) dX11_stampOf_3 (by decide) (by first | assumption | exact b01_r | exact bz_r | omega | (constructor <;> omega) | exact hM _ | exact hPo _ | exact hTa _ | exact hRo _) (by first | assumption | exact b01_r | exact bz_r | omega | (constructor <;> omega) | exact hM _ | exact hPo _ | exact hTa _ | exact hRo _) (fun c_3 => ?_) (fun c_3 => ?_)
  · refine r_aload_n (pc := 20) dX11_stampOf_20 rfl (by first | rfl | exact isRefV_rf _) ?_
    refine rm_getf (pc := 21) dX11_stampOf_21 fX11_11 (by assumption) rfl ?_
    refine r_iload_n (pc := 24) dX11_stampOf_24 rfl ?_
    refine rj_bipush (pc := 25) dX11_stampOf_25 (by decide +kernel) ?_
    refine rj_isub (pc := 27) dX11_stampOf_27 ?_
    refine rj_iconst (pc := 28) dX11_stampOf_28 ?_
    refine r_callS2 (pc := 29) dX11_stampOf_29 qX11_ofScope kX11_42 sX11_ofScope (Nat.le_of_ble_eq_true rfl) (m_ofScope d) (fun v_29 h_29 q_29 => ?_)
    obtain ⟨rfl, rfl⟩ := q_29
    refine rj_iald (pc := 32) (j := 20 + 4 * (e - 100)) dX11_stampOf_32 (by first | exact isM.g0 (by assumption) | exact isM.g3 (by assumption) | exact isM.g4 (by assumption) | exact isM.g8 (by assumption) | exact isM.g7 (by assumption) | exact isM.g6 (by assumption) | exact isM.g5 (by assumption) | exact isM.g1 (by assumption) | exact isM.g2 (by assumption)) (by first | assumption | exact b01_r | exact bz_r | omega | (constructor <;> omega) | exact hM _ | exact hPo _ | exact hTa _ | exact hRo _) (by first | assumption | exact b01_r | exact bz_r | omega | (constructor <;> omega) | exact hM _ | exact hPo _ | exact hTa _ | exact hRo _) (by first | assumption | exact b01_r | exact bz_r | omega | (constructor <;> omega) | exact hM _ | exact hPo _ | exact hTa _ | exact hRo _) (by omega) ?_
    refine r_ireturn (pc := 33) .int dX11_stampOf_33 rfl (by first | rfl | assumption) ?_
    first
    | exact ⟨by unfold stampV; rw [if_pos (by omega)], rfl⟩
    | exact ⟨by unfold stampV; rw [if_neg (by omega)], rfl⟩
  · refine r_aload_n (pc := 6) dX11_stampOf_6 rfl (by first | rfl | exact isRefV_rf _) ?_
    refine rm_getf (pc := 7) dX11_stampOf_7 fX11_11 (by assumption) rfl ?_
    refine r_iload_n (pc := 10) dX11_stampOf_10 rfl ?_
    refine rj_iconst (pc := 11) dX11_stampOf_11 ?_
    refine rj_iconst (pc := 12) dX11_stampOf_12 ?_
    refine r_callS3 (pc := 13) dX11_stampOf_13 qX11_ofThing kX11_54 sX11_ofThing (Nat.le_of_ble_eq_true rfl) (m_ofThing d) (fun v_13 h_13 q_13 => ?_)
    obtain ⟨rfl, rfl⟩ := q_13
    refine rj_iald (pc := 16) (j := 260 + 14 * e) dX11_stampOf_16 (by first | exact isM.g0 (by assumption) | exact isM.g3 (by assumption) | exact isM.g4 (by assumption) | exact isM.g8 (by assumption) | exact isM.g7 (by assumption) | exact isM.g6 (by assumption) | exact isM.g5 (by assumption) | exact isM.g1 (by assumption) | exact isM.g2 (by assumption)) (by first | assumption | exact b01_r | exact bz_r | omega | (constructor <;> omega) | exact hM _ | exact hPo _ | exact hTa _ | exact hRo _) (by first | assumption | exact b01_r | exact bz_r | omega | (constructor <;> omega) | exact hM _ | exact hPo _ | exact hTa _ | exact hRo _) (by first | assumption | exact b01_r | exact bz_r | omega | (constructor <;> omega) | exact hM _ | exact hPo _ | exact hTa _ | exact hRo _) (by omega) ?_
    refine r_goto (pc := 17) (tgt := 33) dX11_stampOf_17 (by decide) ?_
    refine r_ireturn (pc := 33) .int dX11_stampOf_33 rfl (by first | rfl | assumption) ?_
    first
    | exact ⟨by unfold stampV; rw [if_pos (by omega)], rfl⟩
    | exact ⟨by unfold stampV; rw [if_neg (by omega)], rfl⟩
set_option maxHeartbeats 4000000 in
set_option maxRecDepth 100000 in
theorem m_isEntry {G : mG} {l : Launch} (d : Nat) {h : mH} {x s : Nat} {f4 f6 f8 f9 f10 f11 f12 f13 f14 f16 f18 : Int} {m kp was pool tape pln pap rwd rw : Nat → Int}(hB : isM h x (mFs x f4 f6 f8 f9 f10 f11 f12 f13 f14 f16 f18 s) m kp was pool tape pln pap rwd rw) (hM : ∀ q, InR (m q)) {N C : Nat} (hN : m 1 = (N : Int)) (hcap : N ≤ 90) (hC : m 0 = (C : Int)) (hC2 : C ≤ 60) {a : Int} (ha : InR a) {e : Nat} (he : e ≤ 159) : RUNM G l (d + 2) mX11_isEntry [.ref x, .int (J (e : Int)), .int (J a)] h (fun v h' => v = some (.int (J (b01 (entryP m N C a e)))) ∧ h' = h) := by
  dsimp only [mFs] at hB
  refine RUNM.of (by decide +kernel) (Nat.le_of_ble_eq_true rfl) ?_
  have r1 := hM 1
  have r0 := hM 0
  refine r_iload_n (pc := 0) dX11_isEntry_0 rfl ?_
  refine rj_bipush (pc := 1) dX11_isEntry_1 (by decide +kernel) ?_
  refine rj_icmp_ge (pc := 3) (tgt := 45) dX11_isEntry_3 (by decide) (by first | assumption | exact b01_r | exact bz_r | omega | (constructor <;> omega) | exact hM _ | exact hPo _ | exact hTa _ | exact hRo _) (by first | assumption | exact b01_r | exact bz_r | omega | (constructor <;> omega) | exact hM _ | exact hPo _ | exact hTa _ | exact hRo _) (fun c_3 => ?_) (fun c_3 => ?_)
  · refine r_iload_n (pc := 45) dX11_isEntry_45 rfl ?_
    refine rj_bipush (pc := 46) dX11_isEntry_46 (by decide +kernel) ?_
    refine rj_isub (pc := 48) dX11_isEntry_48 ?_
    refine r_aload_n (pc := 49) dX11_isEntry_49 rfl (by first | rfl | exact isRefV_rf _) ?_
    refine rm_getf (pc := 50) dX11_isEntry_50 fX11_11 (by assumption) rfl ?_
    refine rj_iconst (pc := 53) dX11_isEntry_53 ?_
    refine rj_iald (pc := 54) (j := 0) dX11_isEntry_54 (by first | exact isM.g0 (by assumption) | exact isM.g3 (by assumption) | exact isM.g4 (by assumption) | exact isM.g8 (by assumption) | exact isM.g7 (by assumption) | exact isM.g6 (by assumption) | exact isM.g5 (by assumption) | exact isM.g1 (by assumption) | exact isM.g2 (by assumption)) (by first | assumption | exact b01_r | exact bz_r | omega | (constructor <;> omega) | exact hM _ | exact hPo _ | exact hTa _ | exact hRo _) (by first | assumption | exact b01_r | exact bz_r | omega | (constructor <;> omega) | exact hM _ | exact hPo _ | exact hTa _ | exact hRo _) (by first | assumption | exact b01_r | exact bz_r | omega | (constructor <;> omega) | exact hM _ | exact hPo _ | exact hTa _ | exact hRo _) rfl ?_
    refine rj_icmp_ge (pc := 55) (tgt := 102) dX11_isEntry_55 (by decide) (by first | assumption | exact b01_r | exact bz_r | omega | (constructor <;> omega) | exact hM _ | exact hPo _ | exact hTa _ | exact hRo _) (by first | assumption | exact b01_r | exact bz_r | omega | (constructor <;> omega) | exact hM _ | exact hPo _ | exact hTa _ | exact hRo _) (fun c_55 => ?_) (fun c_55 => ?_)
    · refine rj_iconst (pc := 102) dX11_isEntry_102 ?_
      refine r_ireturn (pc := 103) .boolean dX11_isEntry_103 rfl (by first | exact nar_J0 | exact nar_J1 | exact nar_b01 | exact nar_bz) ?_
      first
      | exact ⟨vt ((entryP_t (by omega)).mpr ⟨by omega, by rw [← n_held]; exact c_21, c_36⟩), rfl⟩
      | exact ⟨vf (fun g => by have g2 := (entryP_t (by omega)).mp g; rw [← n_held] at g2; omega), rfl⟩
      | exact ⟨vt ((entryP_s (by omega)).mpr ⟨by omega, by omega, c_78, c_95⟩), rfl⟩
      | exact ⟨vf (fun g => by have g2 := (entryP_s (by omega)).mp g; omega), rfl⟩
    · refine r_iload_n (pc := 58) dX11_isEntry_58 rfl ?_
      refine rj_bipush (pc := 59) dX11_isEntry_59 (by decide +kernel) ?_
      refine rj_icmp_le (pc := 61) (tgt := 102) dX11_isEntry_61 (by decide) (by first | assumption | exact b01_r | exact bz_r | omega | (constructor <;> omega) | exact hM _ | exact hPo _ | exact hTa _ | exact hRo _) (by first | assumption | exact b01_r | exact bz_r | omega | (constructor <;> omega) | exact hM _ | exact hPo _ | exact hTa _ | exact hRo _) (fun c_61 => ?_) (fun c_61 => ?_)
      · refine rj_iconst (pc := 102) dX11_isEntry_102 ?_
        refine r_ireturn (pc := 103) .boolean dX11_isEntry_103 rfl (by first | exact nar_J0 | exact nar_J1 | exact nar_b01 | exact nar_bz) ?_
        first
        | exact ⟨vt ((entryP_t (by omega)).mpr ⟨by omega, by rw [← n_held]; exact c_21, c_36⟩), rfl⟩
        | exact ⟨vf (fun g => by have g2 := (entryP_t (by omega)).mp g; rw [← n_held] at g2; omega), rfl⟩
        | exact ⟨vt ((entryP_s (by omega)).mpr ⟨by omega, by omega, c_78, c_95⟩), rfl⟩
        | exact ⟨vf (fun g => by have g2 := (entryP_s (by omega)).mp g; omega), rfl⟩
      · refine r_aload_n (pc := 64) dX11_isEntry_64 rfl (by first | rfl | exact isRefV_rf _) ?_
        refine rm_getf (pc := 65) dX11_isEntry_65 fX11_11 (by assumption) rfl ?_
        refine r_iload_n (pc := 68) dX11_isEntry_68 rfl ?_
        refine rj_bipush (pc := 69) dX11_isEntry_69 (by decide +kernel) ?_
        refine rj_isub (pc := 71) dX11_isEntry_71 ?_
        refine rj_iconst (pc := 72) dX11_isEntry_72 ?_
        refine r_callS2 (pc := 73) dX11_isEntry_73 qX11_ofScope kX11_42 sX11_ofScope (Nat.le_of_ble_eq_true rfl) (m_ofScope (d + 1)) (fun v_73 h_73 q_73 => ?_)
        obtain ⟨rfl, rfl⟩ := q_73
        refine rj_iald (pc := 76) (j := 18 + 4 * (e - 100)) dX11_isEntry_76 (by first | exact isM.g0 (by assumption) | exact isM.g3 (by assumption) | exact isM.g4 (by assumption) | exact isM.g8 (by assumption) | exact isM.g7 (by assumption) | exact isM.g6 (by assumption) | exact isM.g5 (by assumption) | exact isM.g1 (by assumption) | exact isM.g2 (by assumption)) (by first | assumption | exact b01_r | exact bz_r | omega | (constructor <;> omega) | exact hM _ | exact hPo _ | exact hTa _ | exact hRo _) (by first | assumption | exact b01_r | exact bz_r | omega | (constructor <;> omega) | exact hM _ | exact hPo _ | exact hTa _ | exact hRo _) (by first | assumption | exact b01_r | exact bz_r | omega | (constructor <;> omega) | exact hM _ | exact hPo _ | exact hTa _ | exact hRo _) (by omega) ?_
        refine rj_iconst (pc := 77) dX11_isEntry_77 ?_
        refine rj_icmp_eq (pc := 78) (tgt := 102) dX11_isEntry_78 (by decide) (by first | assumption | exact b01_r | exact bz_r | omega | (constructor <;> omega) | exact hM _ | exact hPo _ | exact hTa _ | exact hRo _) (by first | assumption | exact b01_r | exact bz_r | omega | (constructor <;> omega) | exact hM _ | exact hPo _ | exact hTa _ | exact hRo _) (fun c_78 => ?_) (fun c_78 => ?_)
        · refine rj_iconst (pc := 102) dX11_isEntry_102 ?_
          refine r_ireturn (pc := 103) .boolean dX11_isEntry_103 rfl (by first | exact nar_J0 | exact nar_J1 | exact nar_b01 | exact nar_bz) ?_
          first
          | exact ⟨vt ((entryP_t (by omega)).mpr ⟨by omega, by rw [← n_held]; exact c_21, c_36⟩), rfl⟩
          | exact ⟨vf (fun g => by have g2 := (entryP_t (by omega)).mp g; rw [← n_held] at g2; omega), rfl⟩
          | exact ⟨vt ((entryP_s (by omega)).mpr ⟨by omega, by omega, c_78, c_95⟩), rfl⟩
          | exact ⟨vf (fun g => by have g2 := (entryP_s (by omega)).mp g; omega), rfl⟩
        · refine r_aload_n (pc := 81) dX11_isEntry_81 rfl (by first | rfl | exact isRefV_rf _) ?_
          refine rm_getf (pc := 82) dX11_isEntry_82 fX11_11 (by assumption) rfl ?_
          refine r_iload_n (pc := 85) dX11_isEntry_85 rfl ?_
          refine rj_bipush (pc := 86) dX11_isEntry_86 (by decide +kernel) ?_
          refine rj_isub (pc := 88) dX11_isEntry_88 ?_
          refine rj_iconst (pc := 89) dX11_isEntry_89 ?_
          refine r_callS2 (pc := 90) dX11_isEntry_90 qX11_ofScope kX11_42 sX11_ofScope (Nat.le_of_ble_eq_true rfl) (m_ofScope (d + 1)) (fun v_90 h_90 q_90 => ?_)
          obtain ⟨rfl, rfl⟩ := q_90
          refine rj_iald (pc := 93) (j := 19 + 4 * (e - 100)) dX11_isEntry_93 (by first | exact isM.g0 (by assumption) | exact isM.g3 (by assumption) | exact isM.g4 (by assumption) | exact isM.g8 (by assumption) | exact isM.g7 (by assumption) | exact isM.g6 (by assumption) | exact isM.g5 (by assumption) | exact isM.g1 (by assumption) | exact isM.g2 (by assumption)) (by first | assumption | exact b01_r | exact bz_r | omega | (constructor <;> omega) | exact hM _ | exact hPo _ | exact hTa _ | exact hRo _) (by first | assumption | exact b01_r | exact bz_r | omega | (constructor <;> omega) | exact hM _ | exact hPo _ | exact hTa _ | exact hRo _) (by first | assumption | exact b01_r | exact bz_r | omega | (constructor <;> omega) | exact hM _ | exact hPo _ | exact hTa _ | exact hRo _) (by omega) ?_
          refine r_iload_n (pc := 94) dX11_isEntry_94 rfl ?_
          refine rj_icmp_ne (pc := 95) (tgt := 102) dX11_isEntry_95 (by decide) (by first | assumption | exact b01_r | exact bz_r | omega | (constructor <;> omega) | exact hM _ | exact hPo _ | exact hTa _ | exact hRo _) (by first | assumption | exact b01_r | exact bz_r | omega | (constructor <;> omega) | exact hM _ | exact hPo _ | exact hTa _ | exact hRo _) (fun c_95 => ?_) (fun c_95 => ?_)
          · refine rj_iconst (pc := 102) dX11_isEntry_102 ?_
            refine r_ireturn (pc := 103) .boolean dX11_isEntry_103 rfl (by first | exact nar_J0 | exact nar_J1 | exact nar_b01 | exact nar_bz) ?_
            first
            | exact ⟨vt ((entryP_t (by omega)).mpr ⟨by omega, by rw [← n_held]; exact c_21, c_36⟩), rfl⟩
            | exact ⟨vf (fun g => by have g2 := (entryP_t (by omega)).mp g; rw [← n_held] at g2; omega), rfl⟩
            | exact ⟨vt ((entryP_s (by omega)).mpr ⟨by omega, by omega, c_78, c_95⟩), rfl⟩
            | exact ⟨vf (fun g => by have g2 := (entryP_s (by omega)).mp g; omega), rfl⟩
          · refine rj_iconst (pc := 98) dX11_isEntry_98 ?_
            refine r_goto (pc := 99) (tgt := 103) dX11_isEntry_99 (by decide) ?_
            refine r_ireturn (pc := 103) .boolean dX11_isEntry_103 rfl (by first | exact nar_J0 | exact nar_J1 | exact nar_b01 | exact nar_bz) ?_
            first
            | exact ⟨vt ((entryP_t (by omega)).mpr ⟨by omega, by rw [← n_held]; exact c_21, c_36⟩), rfl⟩
            | exact ⟨vf (fun g => by have g2 := (entryP_t (by omega)).mp g; rw [← n_held] at g2; omega), rfl⟩
            | exact ⟨vt ((entryP_s (by omega)).mpr ⟨by omega, by omega, c_78, c_95⟩), rfl⟩
            | exact ⟨vf (fun g => by have g2 := (entryP_s (by omega)).mp g; omega), rfl⟩
  · refine r_iload_n (pc := 6) dX11_isEntry_6 rfl ?_
    refine r_aload_n (pc := 7) dX11_isEntry_7 rfl (by first | rfl | exact isRefV_rf _) ?_
    refine rm_getf (pc := 8) dX11_isEntry_8 fX11_11 (by assumption) rfl ?_
    refine rj_iconst (pc := 11) dX11_isEntry_11 ?_
    refine rj_iald (pc := 12) (j := 1) dX11_isEntry_12 (by first | exact isM.g0 (by assumption) | exact isM.g3 (by assumption) | exact isM.g4 (by assumption) | exact isM.g8 (by assumption) | exact isM.g7 (by assumption) | exact isM.g6 (by assumption) | exact isM.g5 (by assumption) | exact isM.g1 (by assumption) | exact isM.g2 (by assumption)) (by first | assumption | exact b01_r | exact bz_r | omega | (constructor <;> omega) | exact hM _ | exact hPo _ | exact hTa _ | exact hRo _) (by first | assumption | exact b01_r | exact bz_r | omega | (constructor <;> omega) | exact hM _ | exact hPo _ | exact hTa _ | exact hRo _) (by first | assumption | exact b01_r | exact bz_r | omega | (constructor <;> omega) | exact hM _ | exact hPo _ | exact hTa _ | exact hRo _) rfl ?_
    refine rj_icmp_ge (pc := 13) (tgt := 43) dX11_isEntry_13 (by decide) (by first | assumption | exact b01_r | exact bz_r | omega | (constructor <;> omega) | exact hM _ | exact hPo _ | exact hTa _ | exact hRo _) (by first | assumption | exact b01_r | exact bz_r | omega | (constructor <;> omega) | exact hM _ | exact hPo _ | exact hTa _ | exact hRo _) (fun c_13 => ?_) (fun c_13 => ?_)
    · refine rj_iconst (pc := 43) dX11_isEntry_43 ?_
      refine r_ireturn (pc := 44) .boolean dX11_isEntry_44 rfl (by first | exact nar_J0 | exact nar_J1 | exact nar_b01 | exact nar_bz) ?_
      first
      | exact ⟨vt ((entryP_t (by omega)).mpr ⟨by omega, by rw [← n_held]; exact c_21, c_36⟩), rfl⟩
      | exact ⟨vf (fun g => by have g2 := (entryP_t (by omega)).mp g; rw [← n_held] at g2; omega), rfl⟩
      | exact ⟨vt ((entryP_s (by omega)).mpr ⟨by omega, by omega, c_78, c_95⟩), rfl⟩
      | exact ⟨vf (fun g => by have g2 := (entryP_s (by omega)).mp g; omega), rfl⟩
    · refine r_aload_n (pc := 16) dX11_isEntry_16 rfl (by first | rfl | exact isRefV_rf _) ?_
      refine r_iload_n (pc := 17) dX11_isEntry_17 rfl ?_
      refine r_callV1 (pc := 18) dX11_isEntry_18 qX11_isHeld kX11_119 vX11_isHeld (by exact isM.gx (by assumption)) rfl rfl (Nat.le_of_ble_eq_true rfl) (m_isHeld d hB hM (a := (e : Int)) (by omega) (by omega)) (fun v_18 h_18 q_18 => ?_)
      obtain ⟨rfl, rfl⟩ := q_18
      refine rj_if_eq (pc := 21) (tgt := 43) dX11_isEntry_21 (by decide) (by first | assumption | exact b01_r | exact bz_r | omega | (constructor <;> omega) | exact hM _ | exact hPo _ | exact hTa _ | exact hRo _) (fun c_21 => ?_) (fun c_21 => ?_)
      · try simp only [b01_0, bz_0, Classical.not_not] at c_21
        refine rj_iconst (pc := 43) dX11_isEntry_43 ?_
        refine r_ireturn (pc := 44) .boolean dX11_isEntry_44 rfl (by first | exact nar_J0 | exact nar_J1 | exact nar_b01 | exact nar_bz) ?_
        first
        | exact ⟨vt ((entryP_t (by omega)).mpr ⟨by omega, by rw [← n_held]; exact c_21, c_36⟩), rfl⟩
        | exact ⟨vf (fun g => by have g2 := (entryP_t (by omega)).mp g; rw [← n_held] at g2; omega), rfl⟩
        | exact ⟨vt ((entryP_s (by omega)).mpr ⟨by omega, by omega, c_78, c_95⟩), rfl⟩
        | exact ⟨vf (fun g => by have g2 := (entryP_s (by omega)).mp g; omega), rfl⟩
      · try simp only [b01_0, bz_0, Classical.not_not] at c_21
        refine r_aload_n (pc := 24) dX11_isEntry_24 rfl (by first | rfl | exact isRefV_rf _) ?_
        refine rm_getf (pc := 25) dX11_isEntry_25 fX11_11 (by assumption) rfl ?_
        refine r_iload_n (pc := 28) dX11_isEntry_28 rfl ?_
        refine rj_iconst (pc := 29) dX11_isEntry_29 ?_
        refine rj_iconst (pc := 30) dX11_isEntry_30 ?_
        refine r_callS3 (pc := 31) dX11_isEntry_31 qX11_ofThing kX11_54 sX11_ofThing (Nat.le_of_ble_eq_true rfl) (m_ofThing (d + 1)) (fun v_31 h_31 q_31 => ?_)
        obtain ⟨rfl, rfl⟩ := q_31
        refine rj_iald (pc := 34) (j := 259 + 14 * e) dX11_isEntry_34 (by first | exact isM.g0 (by assumption) | exact isM.g3 (by assumption) | exact isM.g4 (by assumption) | exact isM.g8 (by assumption) | exact isM.g7 (by assumption) | exact isM.g6 (by assumption) | exact isM.g5 (by assumption) | exact isM.g1 (by assumption) | exact isM.g2 (by assumption)) (by first | assumption | exact b01_r | exact bz_r | omega | (constructor <;> omega) | exact hM _ | exact hPo _ | exact hTa _ | exact hRo _) (by first | assumption | exact b01_r | exact bz_r | omega | (constructor <;> omega) | exact hM _ | exact hPo _ | exact hTa _ | exact hRo _) (by first | assumption | exact b01_r | exact bz_r | omega | (constructor <;> omega) | exact hM _ | exact hPo _ | exact hTa _ | exact hRo _) (by omega) ?_
        refine r_iload_n (pc := 35) dX11_isEntry_35 rfl ?_
        refine rj_icmp_ne (pc := 36) (tgt := 43) dX11_isEntry_36 (by decide) (by first | assumption | exact b01_r | exact bz_r | omega | (constructor <;> omega) | exact hM _ | exact hPo _ | exact hTa _ | exact hRo _) (by first | assumption | exact b01_r | exact bz_r | omega | (constructor <;> omega) | exact hM _ | exact hPo _ | exact hTa _ | exact hRo _) (fun c_36 => ?_) (fun c_36 => ?_)
        · refine rj_iconst (pc := 43) dX11_isEntry_43 ?_
          refine r_ireturn (pc := 44) .boolean dX11_isEntry_44 rfl (by first | exact nar_J0 | exact nar_J1 | exact nar_b01 | exact nar_bz) ?_
          first
          | exact ⟨vt ((entryP_t (by omega)).mpr ⟨by omega, by rw [← n_held]; exact c_21, c_36⟩), rfl⟩
          | exact ⟨vf (fun g => by have g2 := (entryP_t (by omega)).mp g; rw [← n_held] at g2; omega), rfl⟩
          | exact ⟨vt ((entryP_s (by omega)).mpr ⟨by omega, by omega, c_78, c_95⟩), rfl⟩
          | exact ⟨vf (fun g => by have g2 := (entryP_s (by omega)).mp g; omega), rfl⟩
        · refine rj_iconst (pc := 39) dX11_isEntry_39 ?_
          refine r_goto (pc := 40) (tgt := 44) dX11_isEntry_40 (by decide) ?_
          refine r_ireturn (pc := 44) .boolean dX11_isEntry_44 rfl (by first | exact nar_J0 | exact nar_J1 | exact nar_b01 | exact nar_bz) ?_
          first
          | exact ⟨vt ((entryP_t (by omega)).mpr ⟨by omega, by rw [← n_held]; exact c_21, c_36⟩), rfl⟩
          | exact ⟨vf (fun g => by have g2 := (entryP_t (by omega)).mp g; rw [← n_held] at g2; omega), rfl⟩
          | exact ⟨vt ((entryP_s (by omega)).mpr ⟨by omega, by omega, c_78, c_95⟩), rfl⟩
          | exact ⟨vf (fun g => by have g2 := (entryP_s (by omega)).mp g; omega), rfl⟩
def eaL (m : Nat → Int) (N C : Nat) (a st : Int) : Nat → Nat → Int → Int
  | 0, _, f => f
  | n + 1, e, f => eaL m N C a st n (e + 1) (if entryP m N C a e ∧ stampV m e < st ∧ (f < 0 ∨ stampV m f.toNat < stampV m e) then (e : Int) else f)
theorem stampV_r {m : Nat → Int} (hM : ∀ q, InR (m q)) (e : Nat) : InR (stampV m e) := by unfold stampV; split <;> exact hM _
set_option maxHeartbeats 4000000 in
set_option maxRecDepth 100000 in
theorem L_entryAhead {G : mG} {l : Launch} (d : Nat) {h : mH} {x s : Nat} {f4 f6 f8 f9 f10 f11 f12 f13 f14 f16 f18 : Int} {m kp was pool tape pln pap rwd rw : Nat → Int}(hB : isM h x (mFs x f4 f6 f8 f9 f10 f11 f12 f13 f14 f16 f18 s) m kp was pool tape pln pap rwd rw) (hM : ∀ q, InR (m q)) {N C : Nat} (hN : m 1 = (N : Int)) (hcap : N ≤ 90) (hC : m 0 = (C : Int)) (hC2 : C ≤ 60) {a : Int} (ha : InR a) {st : Int} (hst : InR st) : ∀ (n t : Nat) (f : Int), t + n = 160 → -5 ≤ f → f < t → RUN G l (d + 3) mX11_entryAhead 6 [some (.ref x), some (.int (J a)), some (.int (J st)), some (.int (J f)), some (.int (J (t : Int)))] [] h (fun v h' => v = some (.int (J (eaL m N C a st n t f))) ∧ h' = h) := by
  dsimp only [mFs] at hB
  intro n
  induction n with
  | zero =>
    intro t f ht hf hf2
    refine r_iload (pc := 6) dX11_entryAhead_6 rfl ?_
    refine rj_sipush (pc := 8) dX11_entryAhead_8 (by decide +kernel) ?_
    refine rj_icmp_ge (pc := 11) (tgt := 61) dX11_entryAhead_11 (by decide) (by first | assumption | exact b01_r | exact bz_r | omega | (constructor <;> omega) | exact hM _ | exact hPo _ | exact hTa _ | exact hRo _) (by first | assumption | exact b01_r | exact bz_r | omega | (constructor <;> omega) | exact hM _ | exact hPo _ | exact hTa _ | exact hRo _) (fun c_11 => ?_) (fun c_11 => ?_)
    · refine r_iload_n (pc := 61) dX11_entryAhead_61 rfl ?_
      refine r_ireturn (pc := 62) .int dX11_entryAhead_62 rfl (by first | rfl | assumption) ?_
      exact ⟨rfl, rfl⟩
    · exfalso; omega
  | succ n ih =>
    intro t f ht hf hf2
    have q1 := stampV_r hM t
    have q2 := stampV_r hM f.toNat
    refine r_iload (pc := 6) dX11_entryAhead_6 rfl ?_
    refine rj_sipush (pc := 8) dX11_entryAhead_8 (by decide +kernel) ?_
    refine rj_icmp_ge (pc := 11) (tgt := 61) dX11_entryAhead_11 (by decide) (by first | assumption | exact b01_r | exact bz_r | omega | (constructor <;> omega) | exact hM _ | exact hPo _ | exact hTa _ | exact hRo _) (by first | assumption | exact b01_r | exact bz_r | omega | (constructor <;> omega) | exact hM _ | exact hPo _ | exact hTa _ | exact hRo _) (fun c_11 => ?_) (fun c_11 => ?_)
    · refine r_iload_n (pc := 61) dX11_entryAhead_61 rfl ?_
      refine r_ireturn (pc := 62) .int dX11_entryAhead_62 rfl (by first | rfl | assumption) ?_
      exfalso; omega
    · refine r_aload_n (pc := 14) dX11_entryAhead_14 rfl (by first | rfl | exact isRefV_rf _) ?_
      refine r_iload (pc := 15) dX11_entryAhead_15 rfl ?_
      refine r_iload_n (pc := 17) dX11_entryAhead_17 rfl ?_
      refine r_callV2 (pc := 18) dX11_entryAhead_18 qX11_isEntry kX11_255 vX11_isEntry (by exact isM.gx (by assumption)) rfl rfl (Nat.le_of_ble_eq_true rfl) (m_isEntry d hB hM hN hcap hC hC2 ha (e := t) (by omega)) (fun v_18 h_18 q_18 => ?_)
      obtain ⟨rfl, rfl⟩ := q_18
      refine rj_if_eq (pc := 21) (tgt := 55) dX11_entryAhead_21 (by decide) (by first | assumption | exact b01_r | exact bz_r | omega | (constructor <;> omega) | exact hM _ | exact hPo _ | exact hTa _ | exact hRo _) (fun c_21 => ?_) (fun c_21 => ?_)
      · try simp only [b01_0, bz_0, Classical.not_not] at c_21
        refine rj_iinc (pc := 55) dX11_entryAhead_55 (Nat.le_of_ble_eq_true rfl) rfl ?_
        dsimp only [lsSt, List.set, mLs, mEnt]
        refine r_goto (pc := 58) (tgt := 6) dX11_entryAhead_58 (by decide) ?_
        have z := ih (t + 1) f (by omega) hf (by omega)
        rw [eaL, if_neg (fun g => c_21 g.1)]
        exact z
      · try simp only [b01_0, bz_0, Classical.not_not] at c_21
        refine r_aload_n (pc := 24) dX11_entryAhead_24 rfl (by first | rfl | exact isRefV_rf _) ?_
        refine r_iload (pc := 25) dX11_entryAhead_25 rfl ?_
        refine r_callV1 (pc := 27) dX11_entryAhead_27 qX11_stampOf kX11_258 vX11_stampOf (by exact isM.gx (by assumption)) rfl rfl (Nat.le_of_ble_eq_true rfl) (m_stampOf (d + 1) hB (e := t) (by omega)) (fun v_27 h_27 q_27 => ?_)
        obtain ⟨rfl, rfl⟩ := q_27
        refine r_iload_n (pc := 30) dX11_entryAhead_30 rfl ?_
        refine rj_icmp_ge (pc := 31) (tgt := 55) dX11_entryAhead_31 (by decide) (by first | assumption | exact b01_r | exact bz_r | omega | (constructor <;> omega) | exact hM _ | exact hPo _ | exact hTa _ | exact hRo _) (by first | assumption | exact b01_r | exact bz_r | omega | (constructor <;> omega) | exact hM _ | exact hPo _ | exact hTa _ | exact hRo _) (fun c_31 => ?_) (fun c_31 => ?_)
        · refine rj_iinc (pc := 55) dX11_entryAhead_55 (Nat.le_of_ble_eq_true rfl) rfl ?_
          dsimp only [lsSt, List.set, mLs, mEnt]
          refine r_goto (pc := 58) (tgt := 6) dX11_entryAhead_58 (by decide) ?_
          have z := ih (t + 1) f (by omega) hf (by omega)
          rw [eaL, if_neg (fun g => by have := g.2.1; omega)]
          exact z
        · refine r_iload_n (pc := 34) dX11_entryAhead_34 rfl ?_
          refine rj_if_lt (pc := 35) (tgt := 52) dX11_entryAhead_35 (by decide) (by first | assumption | exact b01_r | exact bz_r | omega | (constructor <;> omega) | exact hM _ | exact hPo _ | exact hTa _ | exact hRo _) (fun c_35 => ?_) (fun c_35 => ?_)
          · refine r_iload (pc := 52) dX11_entryAhead_52 rfl ?_
            refine r_istore_n (pc := 54) dX11_entryAhead_54 (Nat.le_of_ble_eq_true rfl) ?_
            dsimp only [lsSt, List.set, mLs, mEnt]
            refine rj_iinc (pc := 55) dX11_entryAhead_55 (Nat.le_of_ble_eq_true rfl) rfl ?_
            dsimp only [lsSt, List.set, mLs, mEnt]
            refine r_goto (pc := 58) (tgt := 6) dX11_entryAhead_58 (by decide) ?_
            have z := ih (t + 1) (t : Int) (by omega) (by omega) (by omega)
            rw [eaL, if_pos ⟨c_21, by omega, Or.inl (by omega)⟩]
            exact z
          · refine r_aload_n (pc := 38) dX11_entryAhead_38 rfl (by first | rfl | exact isRefV_rf _) ?_
            refine r_iload (pc := 39) dX11_entryAhead_39 rfl ?_
            refine r_callV1 (pc := 41) dX11_entryAhead_41 qX11_stampOf kX11_258 vX11_stampOf (by exact isM.gx (by assumption)) rfl rfl (Nat.le_of_ble_eq_true rfl) (m_stampOf (d + 1) hB (e := t) (by omega)) (fun v_41 h_41 q_41 => ?_)
            obtain ⟨rfl, rfl⟩ := q_41
            refine r_aload_n (pc := 44) dX11_entryAhead_44 rfl (by first | rfl | exact isRefV_rf _) ?_
            refine r_iload_n (pc := 45) dX11_entryAhead_45 rfl ?_
            refine r_callV1 (pc := 46) dX11_entryAhead_46 qX11_stampOf kX11_258 vX11_stampOf (by exact isM.gx (by assumption)) rfl rfl (Nat.le_of_ble_eq_true rfl) (by rw [show f = ((f.toNat : Nat) : Int) by omega]; exact m_stampOf (d + 1) hB (e := f.toNat) (by omega)) (fun v_46 h_46 q_46 => ?_)
            obtain ⟨rfl, rfl⟩ := q_46
            refine rj_icmp_le (pc := 49) (tgt := 55) dX11_entryAhead_49 (by decide) (by first | assumption | exact b01_r | exact bz_r | omega | (constructor <;> omega) | exact hM _ | exact hPo _ | exact hTa _ | exact hRo _) (by first | assumption | exact b01_r | exact bz_r | omega | (constructor <;> omega) | exact hM _ | exact hPo _ | exact hTa _ | exact hRo _) (fun c_49 => ?_) (fun c_49 => ?_)
            · refine rj_iinc (pc := 55) dX11_entryAhead_55 (Nat.le_of_ble_eq_true rfl) rfl ?_
              dsimp only [lsSt, List.set, mLs, mEnt]
              refine r_goto (pc := 58) (tgt := 6) dX11_entryAhead_58 (by decide) ?_
              have z := ih (t + 1) f (by omega) hf (by omega)
              rw [eaL, if_neg (fun g => by have := g.2.2; omega)]
              exact z
            · refine r_iload (pc := 52) dX11_entryAhead_52 rfl ?_
              refine r_istore_n (pc := 54) dX11_entryAhead_54 (Nat.le_of_ble_eq_true rfl) ?_
              dsimp only [lsSt, List.set, mLs, mEnt]
              refine rj_iinc (pc := 55) dX11_entryAhead_55 (Nat.le_of_ble_eq_true rfl) rfl ?_
              dsimp only [lsSt, List.set, mLs, mEnt]
              refine r_goto (pc := 58) (tgt := 6) dX11_entryAhead_58 (by decide) ?_
              have z := ih (t + 1) (t : Int) (by omega) (by omega) (by omega)
              rw [eaL, if_pos ⟨c_21, by omega, Or.inr (by omega)⟩]
              exact z
set_option maxHeartbeats 4000000 in
set_option maxRecDepth 100000 in
theorem m_entryAhead {G : mG} {l : Launch} (d : Nat) {h : mH} {x s : Nat} {f4 f6 f8 f9 f10 f11 f12 f13 f14 f16 f18 : Int} {m kp was pool tape pln pap rwd rw : Nat → Int}(hB : isM h x (mFs x f4 f6 f8 f9 f10 f11 f12 f13 f14 f16 f18 s) m kp was pool tape pln pap rwd rw) (hM : ∀ q, InR (m q)) {N C : Nat} (hN : m 1 = (N : Int)) (hcap : N ≤ 90) (hC : m 0 = (C : Int)) (hC2 : C ≤ 60) {a : Int} (ha : InR a) {st : Int} (hst : InR st) : RUNM G l (d + 3) mX11_entryAhead [.ref x, .int (J a), .int (J st)] h (fun v h' => v = some (.int (J (eaL m N C a st 160 0 (-5)))) ∧ h' = h) := by
  refine RUNM.of (by decide +kernel) (Nat.le_of_ble_eq_true rfl) ?_
  refine rj_bipush (pc := 0) dX11_entryAhead_0 (by decide +kernel) ?_
  refine r_istore_n (pc := 2) dX11_entryAhead_2 (Nat.le_of_ble_eq_true rfl) ?_
  dsimp only [lsSt, List.set, mLs, mEnt]
  refine rj_iconst (pc := 3) dX11_entryAhead_3 ?_
  refine r_istore (pc := 4) dX11_entryAhead_4 (Nat.le_of_ble_eq_true rfl) ?_
  dsimp only [lsSt, List.set, mLs, mEnt]
  exact L_entryAhead d hB hM hN hcap hC hC2 ha hst 160 0 (-5) rfl (by decide) (by decide)
end mg_35
section mg_36
/-! ===== contracts of the reference: counters, cancel, rank, below, youngest ===== -/
/-- an int's own whole number -/
noncomputable def wrap (z : Int) : Int := (J z).toInt
theorem J_wrap (z : Int) : J z = J (wrap z) := J_of (J z)
theorem wrap_r (z : Int) : InR (wrap z) := J_rg (J z)
noncomputable def countV (m : Nat → Int) (k v : Int) : Int := if 0 ≤ k ∧ k ≤ 7 then wrap (m (10 + k).toNat + v) else -1
set_option maxHeartbeats 4000000 in
set_option maxRecDepth 100000 in
theorem m_count {G : mG} {l : Launch} (d : Nat) {h : mH} {x s : Nat} {f4 f6 f8 f9 f10 f11 f12 f13 f14 f16 f18 : Int} {m kp was pool tape pln pap rwd rw : Nat → Int}(hB : isM h x (mFs x f4 f6 f8 f9 f10 f11 f12 f13 f14 f16 f18 s) m kp was pool tape pln pap rwd rw) {k e : Int} (hk : InR k) : RUNM G l (d + 1) mX11_count [.ref x, .int (J k), .int (J e)] h (fun v h' => v = some (.int (J (countV m k e))) ∧ ((¬ (0 ≤ k ∧ k ≤ 7) ∧ h' = h) ∨ ((0 ≤ k ∧ k ≤ 7) ∧ isM h' x (mFs x f4 f6 f8 f9 f10 f11 f12 f13 f14 f16 f18 s) (updI m (10 + k).toNat (countV m k e)) kp was pool tape pln pap rwd rw ∧ Same (mBlk x) h h'))) := by
  dsimp only [mFs] at hB
  refine RUNM.of (by decide +kernel) (Nat.le_of_ble_eq_true rfl) ?_
  refine r_iload_n (pc := 0) dX11_count_0 rfl ?_
  refine rj_iconst (pc := 1) dX11_count_1 ?_
  refine rj_bipush (pc := 2) dX11_count_2 (by decide +kernel) ?_
  refine r_callS3 (pc := 4) dX11_count_4 qX11_isIn kX11_46 sX11_isIn (Nat.le_of_ble_eq_true rfl) (m_isIn d hk (by decide) (by decide)) (fun v_4 h_4 q_4 => ?_)
  obtain ⟨rfl, rfl⟩ := q_4
  refine rj_if_ne (pc := 7) (tgt := 12) dX11_count_7 (by decide) (by first | assumption | exact b01_r | exact bz_r | omega | (constructor <;> omega) | exact hM _ | exact hPo _ | exact hTa _ | exact hRo _) (fun c_7 => ?_) (fun c_7 => ?_)
  · try simp only [b01_0, bz_0, Classical.not_not] at c_7
    refine r_aload_n (pc := 12) dX11_count_12 rfl (by first | rfl | exact isRefV_rf _) ?_
    refine rm_getf (pc := 13) dX11_count_13 fX11_11 (by assumption) rfl ?_
    refine rj_bipush (pc := 16) dX11_count_16 (by decide +kernel) ?_
    refine r_iload_n (pc := 18) dX11_count_18 rfl ?_
    refine rj_iadd (pc := 19) dX11_count_19 ?_
    refine r_dup2 (pc := 20) dX11_count_20 rfl rfl ?_
    refine rj_iald (pc := 21) (j := (10 + k).toNat) dX11_count_21 (by first | exact isM.g0 (by assumption) | exact isM.g3 (by assumption) | exact isM.g4 (by assumption) | exact isM.g8 (by assumption) | exact isM.g7 (by assumption) | exact isM.g6 (by assumption) | exact isM.g5 (by assumption) | exact isM.g1 (by assumption) | exact isM.g2 (by assumption)) (by first | assumption | exact b01_r | exact bz_r | omega | (constructor <;> omega) | exact hM _ | exact hPo _ | exact hTa _ | exact hRo _) (by first | assumption | exact b01_r | exact bz_r | omega | (constructor <;> omega) | exact hM _ | exact hPo _ | exact hTa _ | exact hRo _) (by first | assumption | exact b01_r | exact bz_r | omega | (constructor <;> omega) | exact hM _ | exact hPo _ | exact hTa _ | exact hRo _) rfl ?_
    refine r_iload_n (pc := 22) dX11_count_22 rfl ?_
    refine rj_iadd (pc := 23) dX11_count_23 ?_
    have e1 : countV m k e = wrap (m (10 + k).toNat + e) := by unfold countV; rw [if_pos c_7]
    rw [J_wrap (m (10 + k).toNat + e), ← e1]
    first | refine rm_iast0 (pc := 24) (j := (10 + k).toNat) dX11_count_24 (by assumption) (by first | assumption | exact b01_r | exact bz_r | omega | (constructor <;> omega) | exact hM _ | exact hPo _ | exact hTa _ | exact hRo _) (by first | assumption | exact b01_r | exact bz_r | omega | (constructor <;> omega) | exact hM _ | exact hPo _ | exact hTa _ | exact hRo _) (by first | assumption | exact b01_r | exact bz_r | omega | (constructor <;> omega) | exact hM _ | exact hPo _ | exact hTa _ | exact hRo _) (by omega) (fun h_24 hB_24 hS_24 => ?_)
    refine r_aload_n (pc := 25) dX11_count_25 rfl (by first | rfl | exact isRefV_rf _) ?_
    refine rm_getf (pc := 26) dX11_count_26 fX11_11 (by assumption) rfl ?_
    refine rj_bipush (pc := 29) dX11_count_29 (by decide +kernel) ?_
    refine r_iload_n (pc := 31) dX11_count_31 rfl ?_
    refine rj_iadd (pc := 32) dX11_count_32 ?_
    refine rj_iald (pc := 33) (j := (10 + k).toNat) dX11_count_33 (by first | exact isM.g0 (by assumption) | exact isM.g3 (by assumption) | exact isM.g4 (by assumption) | exact isM.g8 (by assumption) | exact isM.g7 (by assumption) | exact isM.g6 (by assumption) | exact isM.g5 (by assumption) | exact isM.g1 (by assumption) | exact isM.g2 (by assumption)) (by first | assumption | exact b01_r | exact bz_r | omega | (constructor <;> omega) | exact hM _ | exact hPo _ | exact hTa _ | exact hRo _) (by first | assumption | exact b01_r | exact bz_r | omega | (constructor <;> omega) | exact hM _ | exact hPo _ | exact hTa _ | exact hRo _) (by first | assumption | exact b01_r | exact bz_r | omega | (constructor <;> omega) | exact hM _ | exact hPo _ | exact hTa _ | exact hRo _) (by omega) ?_
    rw [updI_s]
    refine r_ireturn (pc := 34) .int dX11_count_34 rfl (by first | rfl | assumption) ?_
    exact ⟨rfl, Or.inr ⟨c_7, hB_24, hS_24⟩⟩
  · try simp only [b01_0, bz_0, Classical.not_not] at c_7
    refine rj_iconst (pc := 10) dX11_count_10 ?_
    refine r_ireturn (pc := 11) .int dX11_count_11 rfl (by first | rfl | assumption) ?_
    exact ⟨by unfold countV; rw [if_neg c_7], Or.inl ⟨c_7, rfl⟩⟩
def cancelV (m : Nat → Int) (t : Int) : Int := if 0 ≤ t ∧ t ≤ m 3 - 1 then (if m (1610 + 72 * t).toNat = 0 then 1 - m (1614 + 72 * t).toNat else -3) else -1
def canDo (m : Nat → Int) (t : Int) : Prop := (0 ≤ t ∧ t ≤ m 3 - 1) ∧ m (1610 + 72 * t).toNat = 0
set_option maxHeartbeats 4000000 in
set_option maxRecDepth 100000 in
theorem m_cancel {G : mG} {l : Launch} (d : Nat) {h : mH} {x s : Nat} {f4 f6 f8 f9 f10 f11 f12 f13 f14 f16 f18 : Int} {m kp was pool tape pln pap rwd rw : Nat → Int}(hB : isM h x (mFs x f4 f6 f8 f9 f10 f11 f12 f13 f14 f16 f18 s) m kp was pool tape pln pap rwd rw) (hM : ∀ q, InR (m q)) (h3 : 0 ≤ m 3 ∧ m 3 ≤ 10) {t : Int} (ht : InR t) : RUNM G l (d + 3) mX11_cancel [.ref x, .int (J t)] h (fun v h' => v = some (.int (J (cancelV m t))) ∧ ((¬ canDo m t ∧ h' = h) ∨ (canDo m t ∧ isM h' x (mFs x f4 f6 f8 f9 f10 f11 f12 f13 f14 f16 f18 s) (updI m (1614 + 72 * t).toNat 1) kp was pool tape pln pap rwd rw ∧ Same (mBlk x) h h'))) := by
  have hB0 := hB
  dsimp only [mFs] at hB
  refine RUNM.of (by decide +kernel) (Nat.le_of_ble_eq_true rfl) ?_
  refine r_aload_n (pc := 0) dX11_cancel_0 rfl (by first | rfl | exact isRefV_rf _) ?_
  refine r_iload_n (pc := 1) dX11_cancel_1 rfl ?_
  refine r_callV1 (pc := 2) dX11_cancel_2 qX11_isTask kX11_180 vX11_isTask (by exact isM.gx (by assumption)) rfl rfl (Nat.le_of_ble_eq_true rfl) (m_isTask (d + 1) hB0 ht ⟨by omega, by omega⟩) (fun v_2 h_2 q_2 => ?_)
  obtain ⟨rfl, rfl⟩ := q_2
  refine rj_if_ne (pc := 5) (tgt := 10) dX11_cancel_5 (by decide) (by first | assumption | exact b01_r | exact bz_r | omega | (constructor <;> omega) | exact hM _ | exact hPo _ | exact hTa _ | exact hRo _) (fun c_5 => ?_) (fun c_5 => ?_)
  · try simp only [b01_0, bz_0, Classical.not_not] at c_5
    refine r_aload_n (pc := 10) dX11_cancel_10 rfl (by first | rfl | exact isRefV_rf _) ?_
    refine r_iload_n (pc := 11) dX11_cancel_11 rfl ?_
    refine r_callV1 (pc := 12) dX11_cancel_12 qX11_isReady kX11_183 vX11_isReady (by exact isM.gx (by assumption)) rfl rfl (Nat.le_of_ble_eq_true rfl) (m_isReady (d + 1) hB0 hM (by omega) (by omega)) (fun v_12 h_12 q_12 => ?_)
    obtain ⟨rfl, rfl⟩ := q_12
    refine rj_if_ne (pc := 15) (tgt := 21) dX11_cancel_15 (by decide) (by first | assumption | exact b01_r | exact bz_r | omega | (constructor <;> omega) | exact hM _ | exact hPo _ | exact hTa _ | exact hRo _) (fun c_15 => ?_) (fun c_15 => ?_)
    · try simp only [b01_0, bz_0, Classical.not_not] at c_15
      refine r_aload_n (pc := 21) dX11_cancel_21 rfl (by first | rfl | exact isRefV_rf _) ?_
      refine rm_getf (pc := 22) dX11_cancel_22 fX11_11 (by assumption) rfl ?_
      refine r_iload_n (pc := 25) dX11_cancel_25 rfl ?_
      refine rj_bipush (pc := 26) dX11_cancel_26 (by decide +kernel) ?_
      refine rj_iconst (pc := 28) dX11_cancel_28 ?_
      refine r_callS3 (pc := 29) dX11_cancel_29 qX11_ofTask kX11_58 sX11_ofTask (Nat.le_of_ble_eq_true rfl) (m_ofTask (d + 2)) (fun v_29 h_29 q_29 => ?_)
      obtain ⟨rfl, rfl⟩ := q_29
      refine rj_iald (pc := 32) (j := (1614 + 72 * t).toNat) dX11_cancel_32 (by first | exact isM.g0 (by assumption) | exact isM.g3 (by assumption) | exact isM.g4 (by assumption) | exact isM.g8 (by assumption) | exact isM.g7 (by assumption) | exact isM.g6 (by assumption) | exact isM.g5 (by assumption) | exact isM.g1 (by assumption) | exact isM.g2 (by assumption)) (by first | assumption | exact b01_r | exact bz_r | omega | (constructor <;> omega) | exact hM _ | exact hPo _ | exact hTa _ | exact hRo _) (by first | assumption | exact b01_r | exact bz_r | omega | (constructor <;> omega) | exact hM _ | exact hPo _ | exact hTa _ | exact hRo _) (by first | assumption | exact b01_r | exact bz_r | omega | (constructor <;> omega) | exact hM _ | exact hPo _ | exact hTa _ | exact hRo _) (by omega) ?_
      refine r_istore_n (pc := 33) dX11_cancel_33 (Nat.le_of_ble_eq_true rfl) ?_
      dsimp only [lsSt, List.set, mLs, mEnt]
      refine r_aload_n (pc := 34) dX11_cancel_34 rfl (by first | rfl | exact isRefV_rf _) ?_
      refine rm_getf (pc := 35) dX11_cancel_35 fX11_11 (by assumption) rfl ?_
      refine r_iload_n (pc := 38) dX11_cancel_38 rfl ?_
      refine rj_bipush (pc := 39) dX11_cancel_39 (by decide +kernel) ?_
      refine rj_iconst (pc := 41) dX11_cancel_41 ?_
      refine r_callS3 (pc := 42) dX11_cancel_42 qX11_ofTask kX11_58 sX11_ofTask (Nat.le_of_ble_eq_true rfl) (m_ofTask (d + 2)) (fun v_42 h_42 q_42 => ?_)
      obtain ⟨rfl, rfl⟩ := q_42
      refine rj_iconst (pc := 45) dX11_cancel_45 ?_
      first | refine rm_iast0 (pc := 46) (j := (1614 + 72 * t).toNat) dX11_cancel_46 (by assumption) (by first | assumption | exact b01_r | exact bz_r | omega | (constructor <;> omega) | exact hM _ | exact hPo _ | exact hTa _ | exact hRo _) (by first | assumption | exact b01_r | exact bz_r | omega | (constructor <;> omega) | exact hM _ | exact hPo _ | exact hTa _ | exact hRo _) (by first | assumption | exact b01_r | exact bz_r | omega | (constructor <;> omega) | exact hM _ | exact hPo _ | exact hTa _ | exact hRo _) (by omega) (fun h_46 hB_46 hS_46 => ?_)
      refine rj_iconst (pc := 47) dX11_cancel_47 ?_
      refine r_iload_n (pc := 48) dX11_cancel_48 rfl ?_
      refine rj_isub (pc := 49) dX11_cancel_49 ?_
      refine r_ireturn (pc := 50) .int dX11_cancel_50 rfl (by first | rfl | assumption) ?_
      exact ⟨by unfold cancelV; rw [if_pos c_5, if_pos c_15], Or.inr ⟨⟨c_5, c_15⟩, hB_46, hS_46⟩⟩
    · try simp only [b01_0, bz_0, Classical.not_not] at c_15
      refine rj_bipush (pc := 18) dX11_cancel_18 (by decide +kernel) ?_
      refine r_ireturn (pc := 20) .int dX11_cancel_20 rfl (by first | rfl | assumption) ?_
      exact ⟨by unfold cancelV; rw [if_pos c_5, if_neg c_15], Or.inl ⟨fun g => c_15 g.2, rfl⟩⟩
  · try simp only [b01_0, bz_0, Classical.not_not] at c_5
    refine rj_iconst (pc := 8) dX11_cancel_8 ?_
    refine r_ireturn (pc := 9) .int dX11_cancel_9 rfl (by first | rfl | assumption) ?_
    exact ⟨by unfold cancelV; rw [if_neg c_5], Or.inl ⟨fun g => c_5 g.1, rfl⟩⟩
def rankV (m : Nat → Int) (t p : Int) : Int := if 0 ≤ t ∧ t ≤ m 3 - 1 then (if -99 ≤ p ∧ p ≤ 99 then (if m (1610 + 72 * t).toNat = 0 then m (1609 + 72 * t).toNat + 100 else -3) else -2) else -1
def rankDo (m : Nat → Int) (t p : Int) : Prop := canDo m t ∧ (-99 ≤ p ∧ p ≤ 99)
set_option maxHeartbeats 4000000 in
set_option maxRecDepth 100000 in
theorem m_rank {G : mG} {l : Launch} (d : Nat) {h : mH} {x s : Nat} {f4 f6 f8 f9 f10 f11 f12 f13 f14 f16 f18 : Int} {m kp was pool tape pln pap rwd rw : Nat → Int}(hB : isM h x (mFs x f4 f6 f8 f9 f10 f11 f12 f13 f14 f16 f18 s) m kp was pool tape pln pap rwd rw) (hM : ∀ q, InR (m q)) (h3 : 0 ≤ m 3 ∧ m 3 ≤ 10) {t p : Int} (ht : InR t) (hp : InR p) : RUNM G l (d + 3) mX11_rank [.ref x, .int (J t), .int (J p)] h (fun v h' => v = some (.int (J (rankV m t p))) ∧ ((¬ rankDo m t p ∧ h' = h) ∨ (rankDo m t p ∧ isM h' x (mFs x f4 f6 f8 f9 f10 f11 f12 f13 f14 f16 f18 s) (updI m (1609 + 72 * t).toNat p) kp was pool tape pln pap rwd rw ∧ Same (mBlk x) h h'))) := by
  have hB0 := hB
  dsimp only [mFs] at hB
  refine RUNM.of (by decide +kernel) (Nat.le_of_ble_eq_true rfl) ?_
  refine r_aload_n (pc := 0) dX11_rank_0 rfl (by first | rfl | exact isRefV_rf _) ?_
  refine r_iload_n (pc := 1) dX11_rank_1 rfl ?_
  refine r_callV1 (pc := 2) dX11_rank_2 qX11_isTask kX11_180 vX11_isTask (by exact isM.gx (by assumption)) rfl rfl (Nat.le_of_ble_eq_true rfl) (m_isTask (d + 1) hB0 ht ⟨by omega, by omega⟩) (fun v_2 h_2 q_2 => ?_)
  obtain ⟨rfl, rfl⟩ := q_2
  refine rj_if_ne (pc := 5) (tgt := 10) dX11_rank_5 (by decide) (by first | assumption | exact b01_r | exact bz_r | omega | (constructor <;> omega) | exact hM _ | exact hPo _ | exact hTa _ | exact hRo _) (fun c_5 => ?_) (fun c_5 => ?_)
  · try simp only [b01_0, bz_0, Classical.not_not] at c_5
    refine r_iload_n (pc := 10) dX11_rank_10 rfl ?_
    refine rj_bipush (pc := 11) dX11_rank_11 (by decide +kernel) ?_
    refine rj_bipush (pc := 13) dX11_rank_13 (by decide +kernel) ?_
    refine r_callS3 (pc := 15) dX11_rank_15 qX11_isIn kX11_46 sX11_isIn (Nat.le_of_ble_eq_true rfl) (m_isIn (d + 2) hp (by decide) (by decide)) (fun v_15 h_15 q_15 => ?_)
    obtain ⟨rfl, rfl⟩ := q_15
    refine rj_if_ne (pc := 18) (tgt := 24) dX11_rank_18 (by decide) (by first | assumption | exact b01_r | exact bz_r | omega | (constructor <;> omega) | exact hM _ | exact hPo _ | exact hTa _ | exact hRo _) (fun c_18 => ?_) (fun c_18 => ?_)
    · try simp only [b01_0, bz_0, Classical.not_not] at c_18
      refine r_aload_n (pc := 24) dX11_rank_24 rfl (by first | rfl | exact isRefV_rf _) ?_
      refine r_iload_n (pc := 25) dX11_rank_25 rfl ?_
      refine r_callV1 (pc := 26) dX11_rank_26 qX11_isReady kX11_183 vX11_isReady (by exact isM.gx (by assumption)) rfl rfl (Nat.le_of_ble_eq_true rfl) (m_isReady (d + 1) hB0 hM (by omega) (by omega)) (fun v_26 h_26 q_26 => ?_)
      obtain ⟨rfl, rfl⟩ := q_26
      refine rj_if_ne (pc := 29) (tgt := 35) dX11_rank_29 (by decide) (by first | assumption | exact b01_r | exact bz_r | omega | (constructor <;> omega) | exact hM _ | exact hPo _ | exact hTa _ | exact hRo _) (fun c_29 => ?_) (fun c_29 => ?_)
      · try simp only [b01_0, bz_0, Classical.not_not] at c_29
        refine r_aload_n (pc := 35) dX11_rank_35 rfl (by first | rfl | exact isRefV_rf _) ?_
        refine rm_getf (pc := 36) dX11_rank_36 fX11_11 (by assumption) rfl ?_
        refine r_iload_n (pc := 39) dX11_rank_39 rfl ?_
        refine rj_iconst (pc := 40) dX11_rank_40 ?_
        refine rj_iconst (pc := 41) dX11_rank_41 ?_
        refine r_callS3 (pc := 42) dX11_rank_42 qX11_ofTask kX11_58 sX11_ofTask (Nat.le_of_ble_eq_true rfl) (m_ofTask (d + 2)) (fun v_42 h_42 q_42 => ?_)
        obtain ⟨rfl, rfl⟩ := q_42
        refine rj_iald (pc := 45) (j := (1609 + 72 * t).toNat) dX11_rank_45 (by first | exact isM.g0 (by assumption) | exact isM.g3 (by assumption) | exact isM.g4 (by assumption) | exact isM.g8 (by assumption) | exact isM.g7 (by assumption) | exact isM.g6 (by assumption) | exact isM.g5 (by assumption) | exact isM.g1 (by assumption) | exact isM.g2 (by assumption)) (by first | assumption | exact b01_r | exact bz_r | omega | (constructor <;> omega) | exact hM _ | exact hPo _ | exact hTa _ | exact hRo _) (by first | assumption | exact b01_r | exact bz_r | omega | (constructor <;> omega) | exact hM _ | exact hPo _ | exact hTa _ | exact hRo _) (by first | assumption | exact b01_r | exact bz_r | omega | (constructor <;> omega) | exact hM _ | exact hPo _ | exact hTa _ | exact hRo _) (by omega) ?_
        refine r_istore_n (pc := 46) dX11_rank_46 (Nat.le_of_ble_eq_true rfl) ?_
        dsimp only [lsSt, List.set, mLs, mEnt]
        refine r_aload_n (pc := 47) dX11_rank_47 rfl (by first | rfl | exact isRefV_rf _) ?_
        refine rm_getf (pc := 48) dX11_rank_48 fX11_11 (by assumption) rfl ?_
        refine r_iload_n (pc := 51) dX11_rank_51 rfl ?_
        refine rj_iconst (pc := 52) dX11_rank_52 ?_
        refine rj_iconst (pc := 53) dX11_rank_53 ?_
        refine r_callS3 (pc := 54) dX11_rank_54 qX11_ofTask kX11_58 sX11_ofTask (Nat.le_of_ble_eq_true rfl) (m_ofTask (d + 2)) (fun v_54 h_54 q_54 => ?_)
        obtain ⟨rfl, rfl⟩ := q_54
        refine r_iload_n (pc := 57) dX11_rank_57 rfl ?_
        first | refine rm_iast0 (pc := 58) (j := (1609 + 72 * t).toNat) dX11_rank_58 (by assumption) (by first | assumption | exact b01_r | exact bz_r | omega | (constructor <;> omega) | exact hM _ | exact hPo _ | exact hTa _ | exact hRo _) (by first | assumption | exact b01_r | exact bz_r | omega | (constructor <;> omega) | exact hM _ | exact hPo _ | exact hTa _ | exact hRo _) (by first | assumption | exact b01_r | exact bz_r | omega | (constructor <;> omega) | exact hM _ | exact hPo _ | exact hTa _ | exact hRo _) (by omega) (fun h_58 hB_58 hS_58 => ?_)
        refine r_iload_n (pc := 59) dX11_rank_59 rfl ?_
        refine rj_bipush (pc := 60) dX11_rank_60 (by decide +kernel) ?_
        refine rj_iadd (pc := 62) dX11_rank_62 ?_
        refine r_ireturn (pc := 63) .int dX11_rank_63 rfl (by first | rfl | assumption) ?_
        exact ⟨by unfold rankV; rw [if_pos c_5, if_pos c_18, if_pos c_29], Or.inr ⟨⟨⟨c_5, c_29⟩, c_18⟩, hB_58, hS_58⟩⟩
      · try simp only [b01_0, bz_0, Classical.not_not] at c_29
        refine rj_bipush (pc := 32) dX11_rank_32 (by decide +kernel) ?_
        refine r_ireturn (pc := 34) .int dX11_rank_34 rfl (by first | rfl | assumption) ?_
        exact ⟨by unfold rankV; rw [if_pos c_5, if_pos c_18, if_neg c_29], Or.inl ⟨fun g => c_29 g.1.2, rfl⟩⟩
    · try simp only [b01_0, bz_0, Classical.not_not] at c_18
      refine rj_bipush (pc := 21) dX11_rank_21 (by decide +kernel) ?_
      refine r_ireturn (pc := 23) .int dX11_rank_23 rfl (by first | rfl | assumption) ?_
      exact ⟨by unfold rankV; rw [if_pos c_5, if_neg c_18], Or.inl ⟨fun g => c_18 g.2, rfl⟩⟩
  · try simp only [b01_0, bz_0, Classical.not_not] at c_5
    refine rj_iconst (pc := 8) dX11_rank_8 ?_
    refine r_ireturn (pc := 9) .int dX11_rank_9 rfl (by first | rfl | assumption) ?_
    exact ⟨by unfold rankV; rw [if_neg c_5], Or.inl ⟨fun g => c_5 g.1.1, rfl⟩⟩
end mg_36
section mg_37
/-! ===== contracts of the reference: scope, below, youngest, told ===== -/
def belowV (m : Nat → Int) (C : Nat) (a o : Int) : Int := if (0 ≤ a ∧ a ≤ m 0 - 1) ∧ (0 ≤ o ∧ o ≤ m 0 - 1) then bz (belowB m C o a) else -1
set_option maxHeartbeats 4000000 in
set_option maxRecDepth 100000 in
theorem m_below {G : mG} {l : Launch} (d : Nat) {h : mH} {x s : Nat} {f4 f6 f8 f9 f10 f11 f12 f13 f14 f16 f18 : Int} {m kp was pool tape pln pap rwd rw : Nat → Int}(hB : isM h x (mFs x f4 f6 f8 f9 f10 f11 f12 f13 f14 f16 f18 s) m kp was pool tape pln pap rwd rw) {C : Nat} (hC : m 0 = (C : Int)) (hC2 : C ≤ 60) (hP : parOk m C) {a o : Int} (ha : InR a) (ho : InR o) : RUNM G l (d + 2) mX11_below [.ref x, .int (J a), .int (J o)] h (fun v h' => v = some (.int (J (belowV m C a o))) ∧ h' = h) := by
  dsimp only [mFs] at hB
  refine RUNM.of (by decide +kernel) (Nat.le_of_ble_eq_true rfl) ?_
  refine r_aload_n (pc := 0) dX11_below_0 rfl (by first | rfl | exact isRefV_rf _) ?_
  refine r_iload_n (pc := 1) dX11_below_1 rfl ?_
  refine r_callV1 (pc := 2) dX11_below_2 qX11_isScope kX11_50 vX11_isScope (by exact isM.gx (by assumption)) rfl rfl (Nat.le_of_ble_eq_true rfl) (m_isScope d hB ha ⟨by omega, by omega⟩) (fun v_2 h_2 q_2 => ?_)
  obtain ⟨rfl, rfl⟩ := q_2
  refine rj_if_eq (pc := 5) (tgt := 16) dX11_below_5 (by decide) (by first | assumption | exact b01_r | exact bz_r | omega | (constructor <;> omega) | exact hM _ | exact hPo _ | exact hTa _ | exact hRo _) (fun c_5 => ?_) (fun c_5 => ?_)
  · try simp only [b01_0, bz_0, Classical.not_not] at c_5
    refine rj_iconst (pc := 16) dX11_below_16 ?_
    refine r_goto (pc := 17) (tgt := 34) dX11_below_17 (by decide) ?_
    refine r_ireturn (pc := 34) .int dX11_below_34 rfl (by first | rfl | assumption) ?_
    first
    | exact ⟨by unfold belowV; rw [if_neg (by omega)], rfl⟩
    | exact ⟨by unfold belowV; rw [if_pos ⟨c_5, c_13⟩, bz_t c_26], rfl⟩
    | exact ⟨by unfold belowV; rw [if_pos ⟨c_5, c_13⟩, bz_f c_26], rfl⟩
  · try simp only [b01_0, bz_0, Classical.not_not] at c_5
    refine r_aload_n (pc := 8) dX11_below_8 rfl (by first | rfl | exact isRefV_rf _) ?_
    refine r_iload_n (pc := 9) dX11_below_9 rfl ?_
    refine r_callV1 (pc := 10) dX11_below_10 qX11_isScope kX11_50 vX11_isScope (by exact isM.gx (by assumption)) rfl rfl (Nat.le_of_ble_eq_true rfl) (m_isScope d hB ho ⟨by omega, by omega⟩) (fun v_10 h_10 q_10 => ?_)
    obtain ⟨rfl, rfl⟩ := q_10
    refine rj_if_ne (pc := 13) (tgt := 20) dX11_below_13 (by decide) (by first | assumption | exact b01_r | exact bz_r | omega | (constructor <;> omega) | exact hM _ | exact hPo _ | exact hTa _ | exact hRo _) (fun c_13 => ?_) (fun c_13 => ?_)
    · try simp only [b01_0, bz_0, Classical.not_not] at c_13
      refine r_aload_n (pc := 20) dX11_below_20 rfl (by first | rfl | exact isRefV_rf _) ?_
      refine r_iload_n (pc := 21) dX11_below_21 rfl ?_
      refine r_iload_n (pc := 22) dX11_below_22 rfl ?_
      refine r_callV2 (pc := 23) dX11_below_23 qX11_isBelow kX11_246 vX11_isBelow (by exact isM.gx (by assumption)) rfl rfl (Nat.le_of_ble_eq_true rfl) (m_isBelow d hB hC2 hP ho (by omega) (by omega)) (fun v_23 h_23 q_23 => ?_)
      obtain ⟨rfl, rfl⟩ := q_23
      refine rj_if_eq (pc := 26) (tgt := 33) dX11_below_26 (by decide) (by first | assumption | exact b01_r | exact bz_r | omega | (constructor <;> omega) | exact hM _ | exact hPo _ | exact hTa _ | exact hRo _) (fun c_26 => ?_) (fun c_26 => ?_)
      · try simp only [b01_0, bz_0, Classical.not_not] at c_26
        refine rj_iconst (pc := 33) dX11_below_33 ?_
        refine r_ireturn (pc := 34) .int dX11_below_34 rfl (by first | rfl | assumption) ?_
        first
        | exact ⟨by unfold belowV; rw [if_neg (by omega)], rfl⟩
        | exact ⟨by unfold belowV; rw [if_pos ⟨c_5, c_13⟩, bz_t c_26], rfl⟩
        | exact ⟨by unfold belowV; rw [if_pos ⟨c_5, c_13⟩, bz_f c_26], rfl⟩
      · try simp only [b01_0, bz_0, Classical.not_not] at c_26
        refine rj_iconst (pc := 29) dX11_below_29 ?_
        refine r_goto (pc := 30) (tgt := 34) dX11_below_30 (by decide) ?_
        refine r_ireturn (pc := 34) .int dX11_below_34 rfl (by first | rfl | assumption) ?_
        first
        | exact ⟨by unfold belowV; rw [if_neg (by omega)], rfl⟩
        | exact ⟨by unfold belowV; rw [if_pos ⟨c_5, c_13⟩, bz_t c_26], rfl⟩
        | exact ⟨by unfold belowV; rw [if_pos ⟨c_5, c_13⟩, bz_f c_26], rfl⟩
    · try simp only [b01_0, bz_0, Classical.not_not] at c_13
      refine rj_iconst (pc := 16) dX11_below_16 ?_
      refine r_goto (pc := 17) (tgt := 34) dX11_below_17 (by decide) ?_
      refine r_ireturn (pc := 34) .int dX11_below_34 rfl (by first | rfl | assumption) ?_
      first
      | exact ⟨by unfold belowV; rw [if_neg (by omega)], rfl⟩
      | exact ⟨by unfold belowV; rw [if_pos ⟨c_5, c_13⟩, bz_t c_26], rfl⟩
      | exact ⟨by unfold belowV; rw [if_pos ⟨c_5, c_13⟩, bz_f c_26], rfl⟩
def scopeV (m : Nat → Int) (N C : Nat) (a k : Int) : Int := if 0 ≤ a ∧ a ≤ m 0 - 1 then
  (if k = 0 then (if m (18 + 4 * a).toNat = 0 then 0 else 1) else if k = 1 then m (19 + 4 * a).toNat else if k = 2 then entsN m a N C else if k = 3 then cnt (heldInB m C a) N else if k = 4 then upN m C (m (19 + 4 * a).toNat) else if k = 5 then m (21 + 4 * a).toNat else -1) else -1
set_option maxHeartbeats 4000000 in
set_option maxRecDepth 100000 in
theorem m_scope {G : mG} {l : Launch} (d : Nat) {h : mH} {x s : Nat} {f4 f6 f8 f9 f10 f11 f12 f13 f14 f16 f18 : Int} {m kp was pool tape pln pap rwd rw : Nat → Int}(hB : isM h x (mFs x f4 f6 f8 f9 f10 f11 f12 f13 f14 f16 f18 s) m kp was pool tape pln pap rwd rw) (hM : ∀ q, InR (m q)) {N C : Nat} (hN : m 1 = (N : Int)) (hcap : N ≤ 90) (hC : m 0 = (C : Int)) (hC1 : 1 ≤ C) (hC2 : C ≤ 60) (hP : parOk m C) (hO : ownOk m N C) {a k : Int} (ha : InR a) (hk : InR k) : RUNM G l (d + 4) mX11_scope [.ref x, .int (J a), .int (J k)] h (fun v h' => v = some (.int (J (scopeV m N C a k))) ∧ h' = h) := by
  have hB0 := hB
  dsimp only [mFs] at hB
  refine RUNM.of (by decide +kernel) (Nat.le_of_ble_eq_true rfl) ?_
  refine r_aload_n (pc := 0) dX11_scope_0 rfl (by first | rfl | exact isRefV_rf _) ?_
  refine r_iload_n (pc := 1) dX11_scope_1 rfl ?_
  refine r_callV1 (pc := 2) dX11_scope_2 qX11_isScope kX11_50 vX11_isScope (by exact isM.gx (by assumption)) rfl rfl (Nat.le_of_ble_eq_true rfl) (m_isScope (d + 2) hB0 ha ⟨by omega, by omega⟩) (fun v_2 h_2 q_2 => ?_)
  obtain ⟨rfl, rfl⟩ := q_2
  refine rj_if_ne (pc := 5) (tgt := 10) dX11_scope_5 (by decide) (by first | assumption | exact b01_r | exact bz_r | omega | (constructor <;> omega) | exact hM _ | exact hPo _ | exact hTa _ | exact hRo _) (fun c_5 => ?_) (fun c_5 => ?_)
  · try simp only [b01_0, bz_0, Classical.not_not] at c_5
    refine r_iload_n (pc := 10) dX11_scope_10 rfl ?_
    refine rj_tsw (pc := 11) dX11_scope_11 (by first | assumption | exact b01_r | exact bz_r | omega | (constructor <;> omega) | exact hM _ | exact hPo _ | exact hTa _ | exact hRo _) (by decide) (by decide) (by decide) (fun off_11 tgt_11 ho_11 ht_11 => ?_)
    by_cases e_11_0 : k = 0
    · rw [e_11_0] at ho_11
      obtain rfl : off_11 = 37 := ho_11.symm.trans (by decide)
      obtain rfl : tgt_11 = 48 := by omega
      refine r_aload_n (pc := 48) dX11_scope_48 rfl (by first | rfl | exact isRefV_rf _) ?_
      refine rm_getf (pc := 49) dX11_scope_49 fX11_11 (by assumption) rfl ?_
      refine r_iload_n (pc := 52) dX11_scope_52 rfl ?_
      refine rj_iconst (pc := 53) dX11_scope_53 ?_
      refine r_callS2 (pc := 54) dX11_scope_54 qX11_ofScope kX11_42 sX11_ofScope (Nat.le_of_ble_eq_true rfl) (m_ofScope (d + 3)) (fun v_54 h_54 q_54 => ?_)
      obtain ⟨rfl, rfl⟩ := q_54
      refine rj_iald (pc := 57) (j := (18 + 4 * a).toNat) dX11_scope_57 (by first | exact isM.g0 (by assumption) | exact isM.g3 (by assumption) | exact isM.g4 (by assumption) | exact isM.g8 (by assumption) | exact isM.g7 (by assumption) | exact isM.g6 (by assumption) | exact isM.g5 (by assumption) | exact isM.g1 (by assumption) | exact isM.g2 (by assumption)) (by first | assumption | exact b01_r | exact bz_r | omega | (constructor <;> omega) | exact hM _ | exact hPo _ | exact hTa _ | exact hRo _) (by first | assumption | exact b01_r | exact bz_r | omega | (constructor <;> omega) | exact hM _ | exact hPo _ | exact hTa _ | exact hRo _) (by first | assumption | exact b01_r | exact bz_r | omega | (constructor <;> omega) | exact hM _ | exact hPo _ | exact hTa _ | exact hRo _) (by omega) ?_
      refine rj_if_ne (pc := 58) (tgt := 65) dX11_scope_58 (by decide) (by first | assumption | exact b01_r | exact bz_r | omega | (constructor <;> omega) | exact hM _ | exact hPo _ | exact hTa _ | exact hRo _) (fun c_58 => ?_) (fun c_58 => ?_)
      · try simp only [b01_0, bz_0, Classical.not_not] at c_58
        refine rj_iconst (pc := 65) dX11_scope_65 ?_
        refine r_ireturn (pc := 66) .int dX11_scope_66 rfl (by first | rfl | assumption) ?_
        first
        | exact ⟨by unfold scopeV; rw [if_pos c_5, if_pos e_11_0]; rw [if_pos c_58], rfl⟩
        | exact ⟨by unfold scopeV; rw [if_pos c_5, if_pos e_11_0]; rw [if_neg c_58], rfl⟩
      · try simp only [b01_0, bz_0, Classical.not_not] at c_58
        refine rj_iconst (pc := 61) dX11_scope_61 ?_
        refine r_goto (pc := 62) (tgt := 66) dX11_scope_62 (by decide) ?_
        refine r_ireturn (pc := 66) .int dX11_scope_66 rfl (by first | rfl | assumption) ?_
        first
        | exact ⟨by unfold scopeV; rw [if_pos c_5, if_pos e_11_0]; rw [if_pos c_58], rfl⟩
        | exact ⟨by unfold scopeV; rw [if_pos c_5, if_pos e_11_0]; rw [if_neg c_58], rfl⟩
    by_cases e_11_1 : k = 1
    · rw [e_11_1] at ho_11
      obtain rfl : off_11 = 56 := ho_11.symm.trans (by decide)
      obtain rfl : tgt_11 = 67 := by omega
      refine r_aload_n (pc := 67) dX11_scope_67 rfl (by first | rfl | exact isRefV_rf _) ?_
      refine rm_getf (pc := 68) dX11_scope_68 fX11_11 (by assumption) rfl ?_
      refine r_iload_n (pc := 71) dX11_scope_71 rfl ?_
      refine rj_iconst (pc := 72) dX11_scope_72 ?_
      refine r_callS2 (pc := 73) dX11_scope_73 qX11_ofScope kX11_42 sX11_ofScope (Nat.le_of_ble_eq_true rfl) (m_ofScope (d + 3)) (fun v_73 h_73 q_73 => ?_)
      obtain ⟨rfl, rfl⟩ := q_73
      refine rj_iald (pc := 76) (j := (19 + 4 * a).toNat) dX11_scope_76 (by first | exact isM.g0 (by assumption) | exact isM.g3 (by assumption) | exact isM.g4 (by assumption) | exact isM.g8 (by assumption) | exact isM.g7 (by assumption) | exact isM.g6 (by assumption) | exact isM.g5 (by assumption) | exact isM.g1 (by assumption) | exact isM.g2 (by assumption)) (by first | assumption | exact b01_r | exact bz_r | omega | (constructor <;> omega) | exact hM _ | exact hPo _ | exact hTa _ | exact hRo _) (by first | assumption | exact b01_r | exact bz_r | omega | (constructor <;> omega) | exact hM _ | exact hPo _ | exact hTa _ | exact hRo _) (by first | assumption | exact b01_r | exact bz_r | omega | (constructor <;> omega) | exact hM _ | exact hPo _ | exact hTa _ | exact hRo _) (by omega) ?_
      refine r_ireturn (pc := 77) .int dX11_scope_77 rfl (by first | rfl | assumption) ?_
      exact ⟨by unfold scopeV; rw [if_pos c_5, if_neg e_11_0, if_pos e_11_1], rfl⟩
    by_cases e_11_2 : k = 2
    · rw [e_11_2] at ho_11
      obtain rfl : off_11 = 67 := ho_11.symm.trans (by decide)
      obtain rfl : tgt_11 = 78 := by omega
      refine r_aload_n (pc := 78) dX11_scope_78 rfl (by first | rfl | exact isRefV_rf _) ?_
      refine r_iload_n (pc := 79) dX11_scope_79 rfl ?_
      refine r_callV1 (pc := 80) dX11_scope_80 qX11_entries kX11_241 vX11_entries (by exact isM.gx (by assumption)) rfl rfl (Nat.le_of_ble_eq_true rfl) (m_entries (d + 1) hB0 hM hN hcap hC hC1 hC2 ha) (fun v_80 h_80 q_80 => ?_)
      obtain ⟨rfl, rfl⟩ := q_80
      refine r_ireturn (pc := 83) .int dX11_scope_83 rfl (by first | rfl | assumption) ?_
      exact ⟨by unfold scopeV; rw [if_pos c_5, if_neg e_11_0, if_neg e_11_1, if_pos e_11_2], rfl⟩
    by_cases e_11_3 : k = 3
    · rw [e_11_3] at ho_11
      obtain rfl : off_11 = 73 := ho_11.symm.trans (by decide)
      obtain rfl : tgt_11 = 84 := by omega
      refine r_aload_n (pc := 84) dX11_scope_84 rfl (by first | rfl | exact isRefV_rf _) ?_
      refine r_iload_n (pc := 85) dX11_scope_85 rfl ?_
      refine r_callV1 (pc := 86) dX11_scope_86 qX11_heldIn kX11_249 vX11_heldIn (by exact isM.gx (by assumption)) rfl rfl (Nat.le_of_ble_eq_true rfl) (m_heldIn d hB0 hM hN hcap hC2 hP hO ha) (fun v_86 h_86 q_86 => ?_)
      obtain ⟨rfl, rfl⟩ := q_86
      refine r_ireturn (pc := 89) .int dX11_scope_89 rfl (by first | rfl | assumption) ?_
      exact ⟨by unfold scopeV; rw [if_pos c_5, if_neg e_11_0, if_neg e_11_1, if_neg e_11_2, if_pos e_11_3], rfl⟩
    by_cases e_11_4 : k = 4
    · rw [e_11_4] at ho_11
      obtain rfl : off_11 = 79 := ho_11.symm.trans (by decide)
      obtain rfl : tgt_11 = 90 := by omega
      refine r_aload_n (pc := 90) dX11_scope_90 rfl (by first | rfl | exact isRefV_rf _) ?_
      refine r_iload_n (pc := 91) dX11_scope_91 rfl ?_
      refine r_callV1 (pc := 92) dX11_scope_92 qX11_above kX11_252 vX11_above (by exact isM.gx (by assumption)) rfl rfl (Nat.le_of_ble_eq_true rfl) (m_above (d + 2) hB0 hC2 hP (by omega) (by omega)) (fun v_92 h_92 q_92 => ?_)
      obtain ⟨rfl, rfl⟩ := q_92
      refine r_ireturn (pc := 95) .int dX11_scope_95 rfl (by first | rfl | assumption) ?_
      exact ⟨by unfold scopeV; rw [if_pos c_5, if_neg e_11_0, if_neg e_11_1, if_neg e_11_2, if_neg e_11_3, if_pos e_11_4], rfl⟩
    by_cases e_11_5 : k = 5
    · rw [e_11_5] at ho_11
      obtain rfl : off_11 = 85 := ho_11.symm.trans (by decide)
      obtain rfl : tgt_11 = 96 := by omega
      refine r_aload_n (pc := 96) dX11_scope_96 rfl (by first | rfl | exact isRefV_rf _) ?_
      refine rm_getf (pc := 97) dX11_scope_97 fX11_11 (by assumption) rfl ?_
      refine r_iload_n (pc := 100) dX11_scope_100 rfl ?_
      refine rj_iconst (pc := 101) dX11_scope_101 ?_
      refine r_callS2 (pc := 102) dX11_scope_102 qX11_ofScope kX11_42 sX11_ofScope (Nat.le_of_ble_eq_true rfl) (m_ofScope (d + 3)) (fun v_102 h_102 q_102 => ?_)
      obtain ⟨rfl, rfl⟩ := q_102
      refine rj_iald (pc := 105) (j := (21 + 4 * a).toNat) dX11_scope_105 (by first | exact isM.g0 (by assumption) | exact isM.g3 (by assumption) | exact isM.g4 (by assumption) | exact isM.g8 (by assumption) | exact isM.g7 (by assumption) | exact isM.g6 (by assumption) | exact isM.g5 (by assumption) | exact isM.g1 (by assumption) | exact isM.g2 (by assumption)) (by first | assumption | exact b01_r | exact bz_r | omega | (constructor <;> omega) | exact hM _ | exact hPo _ | exact hTa _ | exact hRo _) (by first | assumption | exact b01_r | exact bz_r | omega | (constructor <;> omega) | exact hM _ | exact hPo _ | exact hTa _ | exact hRo _) (by first | assumption | exact b01_r | exact bz_r | omega | (constructor <;> omega) | exact hM _ | exact hPo _ | exact hTa _ | exact hRo _) (by omega) ?_
      refine r_ireturn (pc := 106) .int dX11_scope_106 rfl (by first | rfl | assumption) ?_
      exact ⟨by unfold scopeV; rw [if_pos c_5, if_neg e_11_0, if_neg e_11_1, if_neg e_11_2, if_neg e_11_3, if_neg e_11_4, if_pos e_11_5], rfl⟩
    have eo_11 : off_11 = 96 := by
      rw [← ho_11]
      unfold tswOff
      rw [if_pos (by omega)]
    obtain rfl : tgt_11 = 107 := by omega
    refine rj_iconst (pc := 107) dX11_scope_107 ?_
    refine r_ireturn (pc := 108) .int dX11_scope_108 rfl (by first | rfl | assumption) ?_
    exact ⟨by unfold scopeV; rw [if_pos c_5, if_neg e_11_0, if_neg e_11_1, if_neg e_11_2, if_neg e_11_3, if_neg e_11_4, if_neg e_11_5], rfl⟩
  · try simp only [b01_0, bz_0, Classical.not_not] at c_5
    refine rj_iconst (pc := 8) dX11_scope_8 ?_
    refine r_ireturn (pc := 9) .int dX11_scope_9 rfl (by first | rfl | assumption) ?_
    exact ⟨by unfold scopeV; rw [if_neg c_5], rfl⟩
end mg_37
section mg_38
/-! ===== constructors: rules that name the heap behind them ===== -/
section RG
variable {G : mG} {l : Launch} {d : Nat} {M : mM} {pc : Nat} {ls : List (Option Value)} {st : List Value} {h : mH} {Q : Option Value → mH → Prop}
/-- behind a step that touched the cell a alone -/
abbrev onlyAt (a : Nat) (h h1 : mH) : Prop := ∀ b, b ≠ a → hGet h1 b = hGet h b
theorem rg_newaI {n : Int} {z : Nat} (hdg : decode M.2.1 pc = .ok (.newarray .int, 2)) (hG : G.2.map Prod.snd = mTy) (hz : h.2.1 = z) (hn : 0 ≤ n) (hm : n < 100000)
    (K : ∀ h1, hGet h1 z = some (.inr (.inl (n.toNat, fun _ => J 0))) → onlyAt z h h1 → h1.1 = h.1 → h1.2.1 = z + 1 → h1.2.2.1 = h.2.2.1 + n.toNat → RUN G l d M (pc + 2) ls (.ref z :: st) h1 Q) : RUN G l d M pc ls (.int (J n) :: st) h Q := by
  subst hz
  exact rj_newaI hdg hG hn hm (K _ hGet_new_self (fun b hb => hGet_new_ne hb rfl) rfl rfl rfl)
theorem rg_gen {a : Nat} {o : mO} (K : ∀ h1, hGet h1 a = some o → onlyAt a h h1 → h1.1 = h.1 → h1.2.1 = h.2.1 → h1.2.2.1 = h.2.2.1 → RUN G l d M pc ls st h1 Q) : RUN G l d M pc ls st (hPut h a o) Q :=
  K _ hGet_put_self (fun b hb => hGet_put_ne hb rfl) rfl rfl rfl
end RG
set_option maxHeartbeats 4000000 in
set_option maxRecDepth 100000 in
theorem m_init {G : mG} {l : Launch} (d : Nat) (hG : G.2.map Prod.snd = mTy) {h : mH} {x : Nat} (hx : hGet h x = some (.inl (11, [.null, .null, .null, .null, .int 0, .null, .int 0, .null, .int 0, .int 0, .int 0, .int 0, .int 0, .int 0, .int 0, .null, .int 0, .null, .int 0, .null, .null]))) (hlo : h.1 ≤ x) (hn : h.2.1 = x + 1) : RUNM G l (d + 1) mX11_init [.ref x] h (fun v h' => v = none ∧ isM h' x (mFs x 0 0 0 0 0 0 0 0 0 0 0 4) (updI (updI (updI (fun _ => 0) 0 1) 19 (-5)) 21 (-5)) (fun _ => 0) (fun _ => 0) (fun _ => 0) (fun _ => 0) (fun _ => 0) (fun _ => 0) (updI (updI (updI (updI (fun _ => 0) 0 (-1)) 1 (-1)) 2 (-1)) 3 (-1)) (fun _ => 0) ∧ (∀ b, b < x → hGet h' b = hGet h b) ∧ h'.1 = h.1 ∧ h'.2.1 = x + 10 ∧ h'.2.2.1 = h.2.2.1 + 21620) := by
  refine RUNM.of (by decide +kernel) (Nat.le_of_ble_eq_true rfl) ?_
  refine r_aload_n (pc := 0) dX11_init_0 rfl rfl ?_
  refine r_objInit (pc := 1) dX11_init_1 kX11_5 (Nat.le_of_ble_eq_true rfl) ?_
  refine r_aload_n (pc := 4) dX11_init_4 rfl rfl ?_
  refine rj_sipush (pc := 5) dX11_init_5 (by decide +kernel) ?_
  refine rg_newaI (pc := 8) (z := (mAd x 0)) dX11_init_8 hG (by rw [hn]; unfold mAd; omega) (by decide) (by decide) (fun h_8 o_8 s_8 l_8 n_8 k_8 => ?_)
  refine r_putf (pc := 10) dX11_init_10 fX11_11 ((s_8 x (by first | exact mAd_x | exact x_mAd | exact mAd_ne (by decide))).trans hx) (by rw [l_8]; exact hlo) rfl rfl (Nat.le_of_ble_eq_true rfl) ?_
  refine rg_gen (fun h_10 o_10 s_10 l_10 n_10 k_10 => ?_)
  dsimp only [List.set] at o_10
  rw [n_8] at n_10
  refine r_aload_n (pc := 13) dX11_init_13 rfl rfl ?_
  refine rj_sipush (pc := 14) dX11_init_14 (by decide +kernel) ?_
  refine rg_newaI (pc := 17) (z := (mAd x 1)) dX11_init_17 hG (by rw [n_10]; unfold mAd; omega) (by decide) (by decide) (fun h_17 o_17 s_17 l_17 n_17 k_17 => ?_)
  refine r_putf (pc := 19) dX11_init_19 fX11_15 ((s_17 x (by first | exact mAd_x | exact x_mAd | exact mAd_ne (by decide))).trans o_10) (by rw [l_17, l_10, l_8]; exact hlo) rfl rfl (Nat.le_of_ble_eq_true rfl) ?_
  refine rg_gen (fun h_19 o_19 s_19 l_19 n_19 k_19 => ?_)
  dsimp only [List.set] at o_19
  rw [n_17] at n_19
  refine r_aload_n (pc := 22) dX11_init_22 rfl rfl ?_
  refine rj_sipush (pc := 23) dX11_init_23 (by decide +kernel) ?_
  refine rg_newaI (pc := 26) (z := (mAd x 2)) dX11_init_26 hG (by rw [n_19]; unfold mAd; omega) (by decide) (by decide) (fun h_26 o_26 s_26 l_26 n_26 k_26 => ?_)
  refine r_putF (pc := 28) dX11_init_28 fX11_18 ⟨_, rfl, rfl⟩ rfl ((s_26 x (by first | exact mAd_x | exact x_mAd | exact mAd_ne (by decide))).trans o_19) (by rw [l_26, l_19, l_17, l_10, l_8]; exact hlo) rfl rfl (Nat.le_of_ble_eq_true rfl) ?_
  refine rg_gen (fun h_28 o_28 s_28 l_28 n_28 k_28 => ?_)
  dsimp only [List.set] at o_28
  rw [n_26] at n_28
  refine r_aload_n (pc := 31) dX11_init_31 rfl rfl ?_
  refine rj_sipush (pc := 32) dX11_init_32 (by decide +kernel) ?_
  refine rg_newaI (pc := 35) (z := (mAd x 3)) dX11_init_35 hG (by rw [n_28]; unfold mAd; omega) (by decide) (by decide) (fun h_35 o_35 s_35 l_35 n_35 k_35 => ?_)
  refine r_putF (pc := 37) dX11_init_37 fX11_21 ⟨_, rfl, rfl⟩ rfl ((s_35 x (by first | exact mAd_x | exact x_mAd | exact mAd_ne (by decide))).trans o_28) (by rw [l_35, l_28, l_26, l_19, l_17, l_10, l_8]; exact hlo) rfl rfl (Nat.le_of_ble_eq_true rfl) ?_
  refine rg_gen (fun h_37 o_37 s_37 l_37 n_37 k_37 => ?_)
  dsimp only [List.set] at o_37
  rw [n_35] at n_37
  refine r_aload_n (pc := 40) dX11_init_40 rfl rfl ?_
  refine rj_bipush (pc := 41) dX11_init_41 (by decide +kernel) ?_
  refine rg_newaI (pc := 43) (z := (mAd x 4)) dX11_init_43 hG (by rw [n_37]; unfold mAd; omega) (by decide) (by decide) (fun h_43 o_43 s_43 l_43 n_43 k_43 => ?_)
  refine r_putF (pc := 45) dX11_init_45 fX11_24 ⟨_, rfl, rfl⟩ rfl ((s_43 x (by first | exact mAd_x | exact x_mAd | exact mAd_ne (by decide))).trans o_37) (by rw [l_43, l_37, l_35, l_28, l_26, l_19, l_17, l_10, l_8]; exact hlo) rfl rfl (Nat.le_of_ble_eq_true rfl) ?_
  refine rg_gen (fun h_45 o_45 s_45 l_45 n_45 k_45 => ?_)
  dsimp only [List.set] at o_45
  rw [n_43] at n_45
  refine r_aload_n (pc := 48) dX11_init_48 rfl rfl ?_
  refine r_aload_n (pc := 49) dX11_init_49 rfl rfl ?_
  refine r_getf (pc := 50) dX11_init_50 fX11_24 o_45 rfl ?_
  refine r_putf (pc := 53) dX11_init_53 fX11_27 o_45 (by rw [l_45, l_43, l_37, l_35, l_28, l_26, l_19, l_17, l_10, l_8]; exact hlo) rfl rfl (Nat.le_of_ble_eq_true rfl) ?_
  refine rg_gen (fun h_53 o_53 s_53 l_53 n_53 k_53 => ?_)
  dsimp only [List.set] at o_53
  rw [n_45] at n_53
  refine r_aload_n (pc := 56) dX11_init_56 rfl rfl ?_
  refine rj_bipush (pc := 57) dX11_init_57 (by decide +kernel) ?_
  refine rg_newaI (pc := 59) (z := (mAd x 5)) dX11_init_59 hG (by rw [n_53]; unfold mAd; omega) (by decide) (by decide) (fun h_59 o_59 s_59 l_59 n_59 k_59 => ?_)
  refine r_putF (pc := 61) dX11_init_61 fX11_30 ⟨_, rfl, rfl⟩ rfl ((s_59 x (by first | exact mAd_x | exact x_mAd | exact mAd_ne (by decide))).trans o_53) (by rw [l_59, l_53, l_45, l_43, l_37, l_35, l_28, l_26, l_19, l_17, l_10, l_8]; exact hlo) rfl rfl (Nat.le_of_ble_eq_true rfl) ?_
  refine rg_gen (fun h_61 o_61 s_61 l_61 n_61 k_61 => ?_)
  dsimp only [List.set] at o_61
  rw [n_59] at n_61
  refine r_aload_n (pc := 64) dX11_init_64 rfl rfl ?_
  refine rj_bipush (pc := 65) dX11_init_65 (by decide +kernel) ?_
  refine rg_newaI (pc := 67) (z := (mAd x 6)) dX11_init_67 hG (by rw [n_61]; unfold mAd; omega) (by decide) (by decide) (fun h_67 o_67 s_67 l_67 n_67 k_67 => ?_)
  refine r_putF (pc := 69) dX11_init_69 fX11_33 ⟨_, rfl, rfl⟩ rfl ((s_67 x (by first | exact mAd_x | exact x_mAd | exact mAd_ne (by decide))).trans o_61) (by rw [l_67, l_61, l_59, l_53, l_45, l_43, l_37, l_35, l_28, l_26, l_19, l_17, l_10, l_8]; exact hlo) rfl rfl (Nat.le_of_ble_eq_true rfl) ?_
  refine rg_gen (fun h_69 o_69 s_69 l_69 n_69 k_69 => ?_)
  dsimp only [List.set] at o_69
  rw [n_67] at n_69
  refine r_aload_n (pc := 72) dX11_init_72 rfl rfl ?_
  refine rj_iconst (pc := 73) dX11_init_73 ?_
  refine rg_newaI (pc := 74) (z := (mAd x 7)) dX11_init_74 hG (by rw [n_69]; unfold mAd; omega) (by decide) (by decide) (fun h_74 o_74 s_74 l_74 n_74 k_74 => ?_)
  refine r_dup (pc := 76) dX11_init_76 rfl ?_
  refine rj_iconst (pc := 77) dX11_init_77 ?_
  refine rj_iconst (pc := 78) dX11_init_78 ?_
  refine rj_iast (pc := 79) dX11_init_79 o_74 (by rw [l_74, l_69, l_67, l_61, l_59, l_53, l_45, l_43, l_37, l_35, l_28, l_26, l_19, l_17, l_10, l_8]; exact Nat.le_trans hlo (by unfold mAd; omega)) (by decide) (by decide) (by decide) ?_
  refine rg_gen (fun h_79 o_79 s_79 l_79 n_79 k_79 => ?_)
  rw [n_74] at n_79
  refine r_dup (pc := 80) dX11_init_80 rfl ?_
  refine rj_iconst (pc := 81) dX11_init_81 ?_
  refine rj_iconst (pc := 82) dX11_init_82 ?_
  refine rj_iast (pc := 83) dX11_init_83 o_79 (by rw [l_79, l_74, l_69, l_67, l_61, l_59, l_53, l_45, l_43, l_37, l_35, l_28, l_26, l_19, l_17, l_10, l_8]; exact Nat.le_trans hlo (by unfold mAd; omega)) (by decide) (by decide) (by decide) ?_
  refine rg_gen (fun h_83 o_83 s_83 l_83 n_83 k_83 => ?_)
  rw [n_79] at n_83
  refine r_dup (pc := 84) dX11_init_84 rfl ?_
  refine rj_iconst (pc := 85) dX11_init_85 ?_
  refine rj_iconst (pc := 86) dX11_init_86 ?_
  refine rj_iast (pc := 87) dX11_init_87 o_83 (by rw [l_83, l_79, l_74, l_69, l_67, l_61, l_59, l_53, l_45, l_43, l_37, l_35, l_28, l_26, l_19, l_17, l_10, l_8]; exact Nat.le_trans hlo (by unfold mAd; omega)) (by decide) (by decide) (by decide) ?_
  refine rg_gen (fun h_87 o_87 s_87 l_87 n_87 k_87 => ?_)
  rw [n_83] at n_87
  refine r_dup (pc := 88) dX11_init_88 rfl ?_
  refine rj_iconst (pc := 89) dX11_init_89 ?_
  refine rj_iconst (pc := 90) dX11_init_90 ?_
  refine rj_iast (pc := 91) dX11_init_91 o_87 (by rw [l_87, l_83, l_79, l_74, l_69, l_67, l_61, l_59, l_53, l_45, l_43, l_37, l_35, l_28, l_26, l_19, l_17, l_10, l_8]; exact Nat.le_trans hlo (by unfold mAd; omega)) (by decide) (by decide) (by decide) ?_
  refine rg_gen (fun h_91 o_91 s_91 l_91 n_91 k_91 => ?_)
  rw [n_87] at n_91
  refine r_putF (pc := 92) dX11_init_92 fX11_36 ⟨_, rfl, rfl⟩ rfl ((s_91 x (by first | exact mAd_x | exact x_mAd | exact mAd_ne (by decide))).trans ((s_87 x (by first | exact mAd_x | exact x_mAd | exact mAd_ne (by decide))).trans ((s_83 x (by first | exact mAd_x | exact x_mAd | exact mAd_ne (by decide))).trans ((s_79 x (by first | exact mAd_x | exact x_mAd | exact mAd_ne (by decide))).trans ((s_74 x (by first | exact mAd_x | exact x_mAd | exact mAd_ne (by decide))).trans o_69))))) (by rw [l_91, l_87, l_83, l_79, l_74, l_69, l_67, l_61, l_59, l_53, l_45, l_43, l_37, l_35, l_28, l_26, l_19, l_17, l_10, l_8]; exact hlo) rfl rfl (Nat.le_of_ble_eq_true rfl) ?_
  refine rg_gen (fun h_92 o_92 s_92 l_92 n_92 k_92 => ?_)
  dsimp only [List.set] at o_92
  rw [n_91] at n_92
  refine r_aload_n (pc := 95) dX11_init_95 rfl rfl ?_
  refine rj_sipush (pc := 96) dX11_init_96 (by decide +kernel) ?_
  refine rg_newaI (pc := 99) (z := (mAd x 8)) dX11_init_99 hG (by rw [n_92]; unfold mAd; omega) (by decide) (by decide) (fun h_99 o_99 s_99 l_99 n_99 k_99 => ?_)
  refine r_putF (pc := 101) dX11_init_101 fX11_39 ⟨_, rfl, rfl⟩ rfl ((s_99 x (by first | exact mAd_x | exact x_mAd | exact mAd_ne (by decide))).trans o_92) (by rw [l_99, l_92, l_91, l_87, l_83, l_79, l_74, l_69, l_67, l_61, l_59, l_53, l_45, l_43, l_37, l_35, l_28, l_26, l_19, l_17, l_10, l_8]; exact hlo) rfl rfl (Nat.le_of_ble_eq_true rfl) ?_
  refine rg_gen (fun h_101 o_101 s_101 l_101 n_101 k_101 => ?_)
  dsimp only [List.set] at o_101
  rw [n_99] at n_101
  refine r_aload_n (pc := 104) dX11_init_104 rfl rfl ?_
  refine r_getf (pc := 105) dX11_init_105 fX11_11 o_101 rfl ?_
  refine rj_iconst (pc := 108) dX11_init_108 ?_
  refine rj_iconst (pc := 109) dX11_init_109 ?_
  refine rj_iast (pc := 110) dX11_init_110 ((s_101 (mAd x 0) (by first | exact mAd_x | exact x_mAd | exact mAd_ne (by decide))).trans ((s_99 (mAd x 0) (by first | exact mAd_x | exact x_mAd | exact mAd_ne (by decide))).trans ((s_92 (mAd x 0) (by first | exact mAd_x | exact x_mAd | exact mAd_ne (by decide))).trans ((s_91 (mAd x 0) (by first | exact mAd_x | exact x_mAd | exact mAd_ne (by decide))).trans ((s_87 (mAd x 0) (by first | exact mAd_x | exact x_mAd | exact mAd_ne (by decide))).trans ((s_83 (mAd x 0) (by first | exact mAd_x | exact x_mAd | exact mAd_ne (by decide))).trans ((s_79 (mAd x 0) (by first | exact mAd_x | exact x_mAd | exact mAd_ne (by decide))).trans ((s_74 (mAd x 0) (by first | exact mAd_x | exact x_mAd | exact mAd_ne (by decide))).trans ((s_69 (mAd x 0) (by first | exact mAd_x | exact x_mAd | exact mAd_ne (by decide))).trans ((s_67 (mAd x 0) (by first | exact mAd_x | exact x_mAd | exact mAd_ne (by decide))).trans ((s_61 (mAd x 0) (by first | exact mAd_x | exact x_mAd | exact mAd_ne (by decide))).trans ((s_59 (mAd x 0) (by first | exact mAd_x | exact x_mAd | exact mAd_ne (by decide))).trans ((s_53 (mAd x 0) (by first | exact mAd_x | exact x_mAd | exact mAd_ne (by decide))).trans ((s_45 (mAd x 0) (by first | exact mAd_x | exact x_mAd | exact mAd_ne (by decide))).trans ((s_43 (mAd x 0) (by first | exact mAd_x | exact x_mAd | exact mAd_ne (by decide))).trans ((s_37 (mAd x 0) (by first | exact mAd_x | exact x_mAd | exact mAd_ne (by decide))).trans ((s_35 (mAd x 0) (by first | exact mAd_x | exact x_mAd | exact mAd_ne (by decide))).trans ((s_28 (mAd x 0) (by first | exact mAd_x | exact x_mAd | exact mAd_ne (by decide))).trans ((s_26 (mAd x 0) (by first | exact mAd_x | exact x_mAd | exact mAd_ne (by decide))).trans ((s_19 (mAd x 0) (by first | exact mAd_x | exact x_mAd | exact mAd_ne (by decide))).trans ((s_17 (mAd x 0) (by first | exact mAd_x | exact x_mAd | exact mAd_ne (by decide))).trans ((s_10 (mAd x 0) (by first | exact mAd_x | exact x_mAd | exact mAd_ne (by decide))).trans o_8)))))))))))))))))))))) (by rw [l_101, l_99, l_92, l_91, l_87, l_83, l_79, l_74, l_69, l_67, l_61, l_59, l_53, l_45, l_43, l_37, l_35, l_28, l_26, l_19, l_17, l_10, l_8]; exact Nat.le_trans hlo (by unfold mAd; omega)) (by decide) (by decide) (by decide) ?_
  refine rg_gen (fun h_110 o_110 s_110 l_110 n_110 k_110 => ?_)
  rw [n_101] at n_110
  refine r_aload_n (pc := 111) dX11_init_111 rfl rfl ?_
  refine r_getf (pc := 112) dX11_init_112 fX11_11 ((s_110 x (by first | exact mAd_x | exact x_mAd | exact mAd_ne (by decide))).trans o_101) rfl ?_
  refine rj_iconst (pc := 115) dX11_init_115 ?_
  refine rj_iconst (pc := 116) dX11_init_116 ?_
  refine r_callS2 (pc := 117) dX11_init_117 qX11_ofScope kX11_42 sX11_ofScope (Nat.le_of_ble_eq_true rfl) (m_ofScope d) (fun v_117 h_117 q_117 => ?_)
  obtain ⟨rfl, rfl⟩ := q_117
  refine rj_bipush (pc := 120) dX11_init_120 (by decide +kernel) ?_
  refine rj_iast (pc := 122) dX11_init_122 o_110 (by rw [l_110, l_101, l_99, l_92, l_91, l_87, l_83, l_79, l_74, l_69, l_67, l_61, l_59, l_53, l_45, l_43, l_37, l_35, l_28, l_26, l_19, l_17, l_10, l_8]; exact Nat.le_trans hlo (by unfold mAd; omega)) (by decide) (by decide) (by decide) ?_
  refine rg_gen (fun h_122 o_122 s_122 l_122 n_122 k_122 => ?_)
  rw [n_110] at n_122
  refine r_aload_n (pc := 123) dX11_init_123 rfl rfl ?_
  refine r_getf (pc := 124) dX11_init_124 fX11_11 ((s_122 x (by first | exact mAd_x | exact x_mAd | exact mAd_ne (by decide))).trans ((s_110 x (by first | exact mAd_x | exact x_mAd | exact mAd_ne (by decide))).trans o_101)) rfl ?_
  refine rj_iconst (pc := 127) dX11_init_127 ?_
  refine rj_iconst (pc := 128) dX11_init_128 ?_
  refine r_callS2 (pc := 129) dX11_init_129 qX11_ofScope kX11_42 sX11_ofScope (Nat.le_of_ble_eq_true rfl) (m_ofScope d) (fun v_129 h_129 q_129 => ?_)
  obtain ⟨rfl, rfl⟩ := q_129
  refine rj_bipush (pc := 132) dX11_init_132 (by decide +kernel) ?_
  refine rj_iast (pc := 134) dX11_init_134 o_122 (by rw [l_122, l_110, l_101, l_99, l_92, l_91, l_87, l_83, l_79, l_74, l_69, l_67, l_61, l_59, l_53, l_45, l_43, l_37, l_35, l_28, l_26, l_19, l_17, l_10, l_8]; exact Nat.le_trans hlo (by unfold mAd; omega)) (by decide) (by decide) (by decide) ?_
  refine rg_gen (fun h_134 o_134 s_134 l_134 n_134 k_134 => ?_)
  rw [n_122] at n_134
  refine r_return (pc := 135) dX11_init_135 rfl ?_
  have h1 : h_134.1 = h.1 := by rw [l_134, l_122, l_110, l_101, l_99, l_92, l_91, l_87, l_83, l_79, l_74, l_69, l_67, l_61, l_59, l_53, l_45, l_43, l_37, l_35, l_28, l_26, l_19, l_17, l_10, l_8]
  have h2 : h_134.2.1 = x + 10 := by rw [n_134]; unfold mAd; omega
  have h3 : h_134.2.2.1 = h.2.2.1 + 21620 := by rw [k_134, k_122, k_110, k_101, k_99, k_92, k_91, k_87, k_83, k_79, k_74, k_69, k_67, k_61, k_59, k_53, k_45, k_43, k_37, k_35, k_28, k_26, k_19, k_17, k_10, k_8]; simp only [Int.reduceToNat]
  have h4 : ∀ b, b < x → hGet h_134 b = hGet h b := by
    intro b hb
    have hx : b ≠ x := by omega
    have hm : ∀ k, b ≠ mAd x k := fun k => by unfold mAd; omega
    rw [s_134 b (hm _), s_122 b (hm _), s_110 b (hm _), s_101 b hx, s_99 b (hm _), s_92 b hx, s_91 b (hm _), s_87 b (hm _), s_83 b (hm _), s_79 b (hm _), s_74 b (hm _), s_69 b hx, s_67 b (hm _), s_61 b hx, s_59 b (hm _), s_53 b hx, s_45 b hx, s_43 b (hm _), s_37 b hx, s_35 b (hm _), s_28 b hx, s_26 b (hm _), s_19 b hx, s_17 b (hm _), s_10 b hx, s_8 b (hm _)]
  have ex := ((s_134 x (by first | exact mAd_x | exact x_mAd | exact mAd_ne (by decide))).trans ((s_122 x (by first | exact mAd_x | exact x_mAd | exact mAd_ne (by decide))).trans ((s_110 x (by first | exact mAd_x | exact x_mAd | exact mAd_ne (by decide))).trans o_101)))
  have e0 := o_134
  have e1 := ((s_134 (mAd x 1) (by first | exact mAd_x | exact x_mAd | exact mAd_ne (by decide))).trans ((s_122 (mAd x 1) (by first | exact mAd_x | exact x_mAd | exact mAd_ne (by decide))).trans ((s_110 (mAd x 1) (by first | exact mAd_x | exact x_mAd | exact mAd_ne (by decide))).trans ((s_101 (mAd x 1) (by first | exact mAd_x | exact x_mAd | exact mAd_ne (by decide))).trans ((s_99 (mAd x 1) (by first | exact mAd_x | exact x_mAd | exact mAd_ne (by decide))).trans ((s_92 (mAd x 1) (by first | exact mAd_x | exact x_mAd | exact mAd_ne (by decide))).trans ((s_91 (mAd x 1) (by first | exact mAd_x | exact x_mAd | exact mAd_ne (by decide))).trans ((s_87 (mAd x 1) (by first | exact mAd_x | exact x_mAd | exact mAd_ne (by decide))).trans ((s_83 (mAd x 1) (by first | exact mAd_x | exact x_mAd | exact mAd_ne (by decide))).trans ((s_79 (mAd x 1) (by first | exact mAd_x | exact x_mAd | exact mAd_ne (by decide))).trans ((s_74 (mAd x 1) (by first | exact mAd_x | exact x_mAd | exact mAd_ne (by decide))).trans ((s_69 (mAd x 1) (by first | exact mAd_x | exact x_mAd | exact mAd_ne (by decide))).trans ((s_67 (mAd x 1) (by first | exact mAd_x | exact x_mAd | exact mAd_ne (by decide))).trans ((s_61 (mAd x 1) (by first | exact mAd_x | exact x_mAd | exact mAd_ne (by decide))).trans ((s_59 (mAd x 1) (by first | exact mAd_x | exact x_mAd | exact mAd_ne (by decide))).trans ((s_53 (mAd x 1) (by first | exact mAd_x | exact x_mAd | exact mAd_ne (by decide))).trans ((s_45 (mAd x 1) (by first | exact mAd_x | exact x_mAd | exact mAd_ne (by decide))).trans ((s_43 (mAd x 1) (by first | exact mAd_x | exact x_mAd | exact mAd_ne (by decide))).trans ((s_37 (mAd x 1) (by first | exact mAd_x | exact x_mAd | exact mAd_ne (by decide))).trans ((s_35 (mAd x 1) (by first | exact mAd_x | exact x_mAd | exact mAd_ne (by decide))).trans ((s_28 (mAd x 1) (by first | exact mAd_x | exact x_mAd | exact mAd_ne (by decide))).trans ((s_26 (mAd x 1) (by first | exact mAd_x | exact x_mAd | exact mAd_ne (by decide))).trans ((s_19 (mAd x 1) (by first | exact mAd_x | exact x_mAd | exact mAd_ne (by decide))).trans o_17)))))))))))))))))))))))
  have e2 := ((s_134 (mAd x 2) (by first | exact mAd_x | exact x_mAd | exact mAd_ne (by decide))).trans ((s_122 (mAd x 2) (by first | exact mAd_x | exact x_mAd | exact mAd_ne (by decide))).trans ((s_110 (mAd x 2) (by first | exact mAd_x | exact x_mAd | exact mAd_ne (by decide))).trans ((s_101 (mAd x 2) (by first | exact mAd_x | exact x_mAd | exact mAd_ne (by decide))).trans ((s_99 (mAd x 2) (by first | exact mAd_x | exact x_mAd | exact mAd_ne (by decide))).trans ((s_92 (mAd x 2) (by first | exact mAd_x | exact x_mAd | exact mAd_ne (by decide))).trans ((s_91 (mAd x 2) (by first | exact mAd_x | exact x_mAd | exact mAd_ne (by decide))).trans ((s_87 (mAd x 2) (by first | exact mAd_x | exact x_mAd | exact mAd_ne (by decide))).trans ((s_83 (mAd x 2) (by first | exact mAd_x | exact x_mAd | exact mAd_ne (by decide))).trans ((s_79 (mAd x 2) (by first | exact mAd_x | exact x_mAd | exact mAd_ne (by decide))).trans ((s_74 (mAd x 2) (by first | exact mAd_x | exact x_mAd | exact mAd_ne (by decide))).trans ((s_69 (mAd x 2) (by first | exact mAd_x | exact x_mAd | exact mAd_ne (by decide))).trans ((s_67 (mAd x 2) (by first | exact mAd_x | exact x_mAd | exact mAd_ne (by decide))).trans ((s_61 (mAd x 2) (by first | exact mAd_x | exact x_mAd | exact mAd_ne (by decide))).trans ((s_59 (mAd x 2) (by first | exact mAd_x | exact x_mAd | exact mAd_ne (by decide))).trans ((s_53 (mAd x 2) (by first | exact mAd_x | exact x_mAd | exact mAd_ne (by decide))).trans ((s_45 (mAd x 2) (by first | exact mAd_x | exact x_mAd | exact mAd_ne (by decide))).trans ((s_43 (mAd x 2) (by first | exact mAd_x | exact x_mAd | exact mAd_ne (by decide))).trans ((s_37 (mAd x 2) (by first | exact mAd_x | exact x_mAd | exact mAd_ne (by decide))).trans ((s_35 (mAd x 2) (by first | exact mAd_x | exact x_mAd | exact mAd_ne (by decide))).trans ((s_28 (mAd x 2) (by first | exact mAd_x | exact x_mAd | exact mAd_ne (by decide))).trans o_26)))))))))))))))))))))
  have e3 := ((s_134 (mAd x 3) (by first | exact mAd_x | exact x_mAd | exact mAd_ne (by decide))).trans ((s_122 (mAd x 3) (by first | exact mAd_x | exact x_mAd | exact mAd_ne (by decide))).trans ((s_110 (mAd x 3) (by first | exact mAd_x | exact x_mAd | exact mAd_ne (by decide))).trans ((s_101 (mAd x 3) (by first | exact mAd_x | exact x_mAd | exact mAd_ne (by decide))).trans ((s_99 (mAd x 3) (by first | exact mAd_x | exact x_mAd | exact mAd_ne (by decide))).trans ((s_92 (mAd x 3) (by first | exact mAd_x | exact x_mAd | exact mAd_ne (by decide))).trans ((s_91 (mAd x 3) (by first | exact mAd_x | exact x_mAd | exact mAd_ne (by decide))).trans ((s_87 (mAd x 3) (by first | exact mAd_x | exact x_mAd | exact mAd_ne (by decide))).trans ((s_83 (mAd x 3) (by first | exact mAd_x | exact x_mAd | exact mAd_ne (by decide))).trans ((s_79 (mAd x 3) (by first | exact mAd_x | exact x_mAd | exact mAd_ne (by decide))).trans ((s_74 (mAd x 3) (by first | exact mAd_x | exact x_mAd | exact mAd_ne (by decide))).trans ((s_69 (mAd x 3) (by first | exact mAd_x | exact x_mAd | exact mAd_ne (by decide))).trans ((s_67 (mAd x 3) (by first | exact mAd_x | exact x_mAd | exact mAd_ne (by decide))).trans ((s_61 (mAd x 3) (by first | exact mAd_x | exact x_mAd | exact mAd_ne (by decide))).trans ((s_59 (mAd x 3) (by first | exact mAd_x | exact x_mAd | exact mAd_ne (by decide))).trans ((s_53 (mAd x 3) (by first | exact mAd_x | exact x_mAd | exact mAd_ne (by decide))).trans ((s_45 (mAd x 3) (by first | exact mAd_x | exact x_mAd | exact mAd_ne (by decide))).trans ((s_43 (mAd x 3) (by first | exact mAd_x | exact x_mAd | exact mAd_ne (by decide))).trans ((s_37 (mAd x 3) (by first | exact mAd_x | exact x_mAd | exact mAd_ne (by decide))).trans o_35)))))))))))))))))))
  have e4 := ((s_134 (mAd x 4) (by first | exact mAd_x | exact x_mAd | exact mAd_ne (by decide))).trans ((s_122 (mAd x 4) (by first | exact mAd_x | exact x_mAd | exact mAd_ne (by decide))).trans ((s_110 (mAd x 4) (by first | exact mAd_x | exact x_mAd | exact mAd_ne (by decide))).trans ((s_101 (mAd x 4) (by first | exact mAd_x | exact x_mAd | exact mAd_ne (by decide))).trans ((s_99 (mAd x 4) (by first | exact mAd_x | exact x_mAd | exact mAd_ne (by decide))).trans ((s_92 (mAd x 4) (by first | exact mAd_x | exact x_mAd | exact mAd_ne (by decide))).trans ((s_91 (mAd x 4) (by first | exact mAd_x | exact x_mAd | exact mAd_ne (by decide))).trans ((s_87 (mAd x 4) (by first | exact mAd_x | exact x_mAd | exact mAd_ne (by decide))).trans ((s_83 (mAd x 4) (by first | exact mAd_x | exact x_mAd | exact mAd_ne (by decide))).trans ((s_79 (mAd x 4) (by first | exact mAd_x | exact x_mAd | exact mAd_ne (by decide))).trans ((s_74 (mAd x 4) (by first | exact mAd_x | exact x_mAd | exact mAd_ne (by decide))).trans ((s_69 (mAd x 4) (by first | exact mAd_x | exact x_mAd | exact mAd_ne (by decide))).trans ((s_67 (mAd x 4) (by first | exact mAd_x | exact x_mAd | exact mAd_ne (by decide))).trans ((s_61 (mAd x 4) (by first | exact mAd_x | exact x_mAd | exact mAd_ne (by decide))).trans ((s_59 (mAd x 4) (by first | exact mAd_x | exact x_mAd | exact mAd_ne (by decide))).trans ((s_53 (mAd x 4) (by first | exact mAd_x | exact x_mAd | exact mAd_ne (by decide))).trans ((s_45 (mAd x 4) (by first | exact mAd_x | exact x_mAd | exact mAd_ne (by decide))).trans o_43)))))))))))))))))
  have e5 := ((s_134 (mAd x 5) (by first | exact mAd_x | exact x_mAd | exact mAd_ne (by decide))).trans ((s_122 (mAd x 5) (by first | exact mAd_x | exact x_mAd | exact mAd_ne (by decide))).trans ((s_110 (mAd x 5) (by first | exact mAd_x | exact x_mAd | exact mAd_ne (by decide))).trans ((s_101 (mAd x 5) (by first | exact mAd_x | exact x_mAd | exact mAd_ne (by decide))).trans ((s_99 (mAd x 5) (by first | exact mAd_x | exact x_mAd | exact mAd_ne (by decide))).trans ((s_92 (mAd x 5) (by first | exact mAd_x | exact x_mAd | exact mAd_ne (by decide))).trans ((s_91 (mAd x 5) (by first | exact mAd_x | exact x_mAd | exact mAd_ne (by decide))).trans ((s_87 (mAd x 5) (by first | exact mAd_x | exact x_mAd | exact mAd_ne (by decide))).trans ((s_83 (mAd x 5) (by first | exact mAd_x | exact x_mAd | exact mAd_ne (by decide))).trans ((s_79 (mAd x 5) (by first | exact mAd_x | exact x_mAd | exact mAd_ne (by decide))).trans ((s_74 (mAd x 5) (by first | exact mAd_x | exact x_mAd | exact mAd_ne (by decide))).trans ((s_69 (mAd x 5) (by first | exact mAd_x | exact x_mAd | exact mAd_ne (by decide))).trans ((s_67 (mAd x 5) (by first | exact mAd_x | exact x_mAd | exact mAd_ne (by decide))).trans ((s_61 (mAd x 5) (by first | exact mAd_x | exact x_mAd | exact mAd_ne (by decide))).trans o_59))))))))))))))
  have e6 := ((s_134 (mAd x 6) (by first | exact mAd_x | exact x_mAd | exact mAd_ne (by decide))).trans ((s_122 (mAd x 6) (by first | exact mAd_x | exact x_mAd | exact mAd_ne (by decide))).trans ((s_110 (mAd x 6) (by first | exact mAd_x | exact x_mAd | exact mAd_ne (by decide))).trans ((s_101 (mAd x 6) (by first | exact mAd_x | exact x_mAd | exact mAd_ne (by decide))).trans ((s_99 (mAd x 6) (by first | exact mAd_x | exact x_mAd | exact mAd_ne (by decide))).trans ((s_92 (mAd x 6) (by first | exact mAd_x | exact x_mAd | exact mAd_ne (by decide))).trans ((s_91 (mAd x 6) (by first | exact mAd_x | exact x_mAd | exact mAd_ne (by decide))).trans ((s_87 (mAd x 6) (by first | exact mAd_x | exact x_mAd | exact mAd_ne (by decide))).trans ((s_83 (mAd x 6) (by first | exact mAd_x | exact x_mAd | exact mAd_ne (by decide))).trans ((s_79 (mAd x 6) (by first | exact mAd_x | exact x_mAd | exact mAd_ne (by decide))).trans ((s_74 (mAd x 6) (by first | exact mAd_x | exact x_mAd | exact mAd_ne (by decide))).trans ((s_69 (mAd x 6) (by first | exact mAd_x | exact x_mAd | exact mAd_ne (by decide))).trans o_67))))))))))))
  have e7 := ((s_134 (mAd x 7) (by first | exact mAd_x | exact x_mAd | exact mAd_ne (by decide))).trans ((s_122 (mAd x 7) (by first | exact mAd_x | exact x_mAd | exact mAd_ne (by decide))).trans ((s_110 (mAd x 7) (by first | exact mAd_x | exact x_mAd | exact mAd_ne (by decide))).trans ((s_101 (mAd x 7) (by first | exact mAd_x | exact x_mAd | exact mAd_ne (by decide))).trans ((s_99 (mAd x 7) (by first | exact mAd_x | exact x_mAd | exact mAd_ne (by decide))).trans ((s_92 (mAd x 7) (by first | exact mAd_x | exact x_mAd | exact mAd_ne (by decide))).trans o_91))))))
  have e8 := ((s_134 (mAd x 8) (by first | exact mAd_x | exact x_mAd | exact mAd_ne (by decide))).trans ((s_122 (mAd x 8) (by first | exact mAd_x | exact x_mAd | exact mAd_ne (by decide))).trans ((s_110 (mAd x 8) (by first | exact mAd_x | exact x_mAd | exact mAd_ne (by decide))).trans ((s_101 (mAd x 8) (by first | exact mAd_x | exact x_mAd | exact mAd_ne (by decide))).trans o_99))))
  have hI : isM h_134 x (mFs x 0 0 0 0 0 0 0 0 0 0 0 4) (updI (updI (updI (fun _ => 0) 0 1) 19 (-5)) 21 (-5)) (fun _ => 0) (fun _ => 0) (fun _ => 0) (fun _ => 0) (fun _ => 0) (fun _ => 0) (updI (updI (updI (updI (fun _ => 0) 0 (-1)) 1 (-1)) 2 (-1)) 3 (-1)) (fun _ => 0) := by
    unfold isM
    refine ⟨by rw [h1]; exact hlo, ?_, ?_, ?_, ?_, ?_, ?_, ?_, ?_, ?_, ?_⟩
    · rw [ex]; unfold mFs; rw [J_0]
    · exact e0
    · exact e1
    · exact e2
    · exact e3
    · exact e4
    · exact e5
    · exact e6
    · exact e7
    · exact e8
  exact ⟨rfl, hI, h4, h1, h2, h3⟩
end mg_38
section mg_39
/-! ===== contracts of the reference: told, faults, name, youngest ===== -/
set_option maxHeartbeats 4000000 in
set_option maxRecDepth 100000 in
theorem m_hasFaults {G : mG} {l : Launch} (d : Nat) {h : mH} {x s : Nat} {f4 f6 f8 f9 f10 f11 f12 f13 f14 f16 f18 : Int} {m kp was pool tape pln pap rwd rw : Nat → Int}(hB : isM h x (mFs x f4 f6 f8 f9 f10 f11 f12 f13 f14 f16 f18 s) m kp was pool tape pln pap rwd rw) (hM : ∀ q, InR (m q)) (h3 : 0 ≤ m 3 ∧ m 3 ≤ 10) {t : Int} (ht : InR t) : RUNM G l (d + 2) mX11_hasFaults [.ref x, .int (J t)] h (fun v h' => v = some (.int (J (b01 (t = -1 ∨ (0 ≤ t ∧ t ≤ m 3 - 1))))) ∧ h' = h) := by
  dsimp only [mFs] at hB
  refine RUNM.of (by decide +kernel) (Nat.le_of_ble_eq_true rfl) ?_
  refine r_iload_n (pc := 0) dX11_hasFaults_0 rfl ?_
  refine rj_iconst (pc := 1) dX11_hasFaults_1 ?_
  refine rj_icmp_eq (pc := 2) (tgt := 13) dX11_hasFaults_2 (by decide) (by first | assumption | exact b01_r | exact bz_r | omega | (constructor <;> omega) | exact hM _ | exact hPo _ | exact hTa _ | exact hRo _) (by first | assumption | exact b01_r | exact bz_r | omega | (constructor <;> omega) | exact hM _ | exact hPo _ | exact hTa _ | exact hRo _) (fun c_2 => ?_) (fun c_2 => ?_)
  · refine rj_iconst (pc := 13) dX11_hasFaults_13 ?_
    refine r_goto (pc := 14) (tgt := 18) dX11_hasFaults_14 (by decide) ?_
    refine r_ireturn (pc := 18) .boolean dX11_hasFaults_18 rfl (by first | exact nar_J0 | exact nar_J1 | exact nar_b01 | exact nar_bz) ?_
    first
    | exact ⟨rfl, rfl⟩
    | exact ⟨vf (by omega), rfl⟩
    | exact ⟨vt (by omega), rfl⟩
  · refine r_aload_n (pc := 5) dX11_hasFaults_5 rfl (by first | rfl | exact isRefV_rf _) ?_
    refine r_iload_n (pc := 6) dX11_hasFaults_6 rfl ?_
    refine r_callV1 (pc := 7) dX11_hasFaults_7 qX11_isTask kX11_180 vX11_isTask (by exact isM.gx (by assumption)) rfl rfl (Nat.le_of_ble_eq_true rfl) (m_isTask d hB ht ⟨by omega, by omega⟩) (fun v_7 h_7 q_7 => ?_)
    obtain ⟨rfl, rfl⟩ := q_7
    refine rj_if_eq (pc := 10) (tgt := 17) dX11_hasFaults_10 (by decide) (by first | assumption | exact b01_r | exact bz_r | omega | (constructor <;> omega) | exact hM _ | exact hPo _ | exact hTa _ | exact hRo _) (fun c_10 => ?_) (fun c_10 => ?_)
    · try simp only [b01_0, bz_0, Classical.not_not] at c_10
      refine rj_iconst (pc := 17) dX11_hasFaults_17 ?_
      refine r_ireturn (pc := 18) .boolean dX11_hasFaults_18 rfl (by first | exact nar_J0 | exact nar_J1 | exact nar_b01 | exact nar_bz) ?_
      first
      | exact ⟨rfl, rfl⟩
      | exact ⟨vf (by omega), rfl⟩
      | exact ⟨vt (by omega), rfl⟩
    · try simp only [b01_0, bz_0, Classical.not_not] at c_10
      refine rj_iconst (pc := 13) dX11_hasFaults_13 ?_
      refine r_goto (pc := 14) (tgt := 18) dX11_hasFaults_14 (by decide) ?_
      refine r_ireturn (pc := 18) .boolean dX11_hasFaults_18 rfl (by first | exact nar_J0 | exact nar_J1 | exact nar_b01 | exact nar_bz) ?_
      first
      | exact ⟨rfl, rfl⟩
      | exact ⟨vf (by omega), rfl⟩
      | exact ⟨vt (by omega), rfl⟩
def manyV (m : Nat → Int) (N : Nat) (t : Int) : Int := if 0 ≤ t then cnt (faultB m t) N + (if m (1618 + 72 * t).toNat = 0 then 0 else 1) else m 5
set_option maxHeartbeats 4000000 in
set_option maxRecDepth 100000 in
theorem m_manyFaults {G : mG} {l : Launch} (d : Nat) {h : mH} {x s : Nat} {f4 f6 f8 f9 f10 f11 f12 f13 f14 f16 f18 : Int} {m kp was pool tape pln pap rwd rw : Nat → Int}(hB : isM h x (mFs x f4 f6 f8 f9 f10 f11 f12 f13 f14 f16 f18 s) m kp was pool tape pln pap rwd rw) (hM : ∀ q, InR (m q)) {N : Nat} (hN : m 4 = (N : Int)) (hcap : N ≤ 120) {t : Int} (ht : InR t) (ht2 : t ≤ 9) : RUNM G l (d + 3) mX11_manyFaults [.ref x, .int (J t)] h (fun v h' => v = some (.int (J (manyV m N t))) ∧ h' = h) := by
  have hB0 := hB
  dsimp only [mFs] at hB
  refine RUNM.of (by decide +kernel) (Nat.le_of_ble_eq_true rfl) ?_
  refine r_iload_n (pc := 0) dX11_manyFaults_0 rfl ?_
  refine rj_if_ge (pc := 1) (tgt := 13) dX11_manyFaults_1 (by decide) (by first | assumption | exact b01_r | exact bz_r | omega | (constructor <;> omega) | exact hM _ | exact hPo _ | exact hTa _ | exact hRo _) (fun c_1 => ?_) (fun c_1 => ?_)
  · refine r_aload_n (pc := 13) dX11_manyFaults_13 rfl (by first | rfl | exact isRefV_rf _) ?_
    refine r_iload_n (pc := 14) dX11_manyFaults_14 rfl ?_
    refine r_callV1 (pc := 15) dX11_manyFaults_15 qX11_gatheredBy kX11_198 vX11_gatheredBy (by exact isM.gx (by assumption)) rfl rfl (Nat.le_of_ble_eq_true rfl) (m_gatheredBy d hB0 hM hN hcap ht) (fun v_15 h_15 q_15 => ?_)
    obtain ⟨rfl, rfl⟩ := q_15
    refine r_aload_n (pc := 18) dX11_manyFaults_18 rfl (by first | rfl | exact isRefV_rf _) ?_
    refine rm_getf (pc := 19) dX11_manyFaults_19 fX11_11 (by assumption) rfl ?_
    refine r_iload_n (pc := 22) dX11_manyFaults_22 rfl ?_
    refine rj_bipush (pc := 23) dX11_manyFaults_23 (by decide +kernel) ?_
    refine rj_iconst (pc := 25) dX11_manyFaults_25 ?_
    refine r_callS3 (pc := 26) dX11_manyFaults_26 qX11_ofTask kX11_58 sX11_ofTask (Nat.le_of_ble_eq_true rfl) (m_ofTask (d + 2)) (fun v_26 h_26 q_26 => ?_)
    obtain ⟨rfl, rfl⟩ := q_26
    refine rj_iald (pc := 29) (j := (1618 + 72 * t).toNat) dX11_manyFaults_29 (by first | exact isM.g0 (by assumption) | exact isM.g3 (by assumption) | exact isM.g4 (by assumption) | exact isM.g8 (by assumption) | exact isM.g7 (by assumption) | exact isM.g6 (by assumption) | exact isM.g5 (by assumption) | exact isM.g1 (by assumption) | exact isM.g2 (by assumption)) (by first | assumption | exact b01_r | exact bz_r | omega | (constructor <;> omega) | exact hM _ | exact hPo _ | exact hTa _ | exact hRo _) (by first | assumption | exact b01_r | exact bz_r | omega | (constructor <;> omega) | exact hM _ | exact hPo _ | exact hTa _ | exact hRo _) (by first | assumption | exact b01_r | exact bz_r | omega | (constructor <;> omega) | exact hM _ | exact hPo _ | exact hTa _ | exact hRo _) (by omega) ?_
    refine rj_if_eq (pc := 30) (tgt := 37) dX11_manyFaults_30 (by decide) (by first | assumption | exact b01_r | exact bz_r | omega | (constructor <;> omega) | exact hM _ | exact hPo _ | exact hTa _ | exact hRo _) (fun c_30 => ?_) (fun c_30 => ?_)
    · try simp only [b01_0, bz_0, Classical.not_not] at c_30
      refine rj_iconst (pc := 37) dX11_manyFaults_37 ?_
      refine rj_iadd (pc := 38) dX11_manyFaults_38 ?_
      refine r_ireturn (pc := 39) .int dX11_manyFaults_39 rfl (by first | rfl | assumption) ?_
      first
      | exact ⟨by unfold manyV; rw [if_neg (by omega)], rfl⟩
      | exact ⟨by unfold manyV; rw [if_pos (by omega), if_pos c_30], rfl⟩
      | exact ⟨by unfold manyV; rw [if_pos (by omega), if_neg c_30], rfl⟩
    · try simp only [b01_0, bz_0, Classical.not_not] at c_30
      refine rj_iconst (pc := 33) dX11_manyFaults_33 ?_
      refine r_goto (pc := 34) (tgt := 38) dX11_manyFaults_34 (by decide) ?_
      refine rj_iadd (pc := 38) dX11_manyFaults_38 ?_
      refine r_ireturn (pc := 39) .int dX11_manyFaults_39 rfl (by first | rfl | assumption) ?_
      first
      | exact ⟨by unfold manyV; rw [if_neg (by omega)], rfl⟩
      | exact ⟨by unfold manyV; rw [if_pos (by omega), if_pos c_30], rfl⟩
      | exact ⟨by unfold manyV; rw [if_pos (by omega), if_neg c_30], rfl⟩
  · refine r_aload_n (pc := 4) dX11_manyFaults_4 rfl (by first | rfl | exact isRefV_rf _) ?_
    refine rm_getf (pc := 5) dX11_manyFaults_5 fX11_11 (by assumption) rfl ?_
    refine rj_iconst (pc := 8) dX11_manyFaults_8 ?_
    refine rj_iald (pc := 9) (j := 5) dX11_manyFaults_9 (by first | exact isM.g0 (by assumption) | exact isM.g3 (by assumption) | exact isM.g4 (by assumption) | exact isM.g8 (by assumption) | exact isM.g7 (by assumption) | exact isM.g6 (by assumption) | exact isM.g5 (by assumption) | exact isM.g1 (by assumption) | exact isM.g2 (by assumption)) (by first | assumption | exact b01_r | exact bz_r | omega | (constructor <;> omega) | exact hM _ | exact hPo _ | exact hTa _ | exact hRo _) (by first | assumption | exact b01_r | exact bz_r | omega | (constructor <;> omega) | exact hM _ | exact hPo _ | exact hTa _ | exact hRo _) (by first | assumption | exact b01_r | exact bz_r | omega | (constructor <;> omega) | exact hM _ | exact hPo _ | exact hTa _ | exact hRo _) rfl ?_
    refine r_goto (pc := 10) (tgt := 39) dX11_manyFaults_10 (by decide) ?_
    refine r_ireturn (pc := 39) .int dX11_manyFaults_39 rfl (by first | rfl | assumption) ?_
    first
    | exact ⟨by unfold manyV; rw [if_neg (by omega)], rfl⟩
    | exact ⟨by unfold manyV; rw [if_pos (by omega), if_pos c_30], rfl⟩
    | exact ⟨by unfold manyV; rw [if_pos (by omega), if_neg c_30], rfl⟩
def faultsV (m : Nat → Int) (N : Nat) (t : Int) : Int := if t = -1 ∨ (0 ≤ t ∧ t ≤ m 3 - 1) then manyV m N t else -1
set_option maxHeartbeats 4000000 in
set_option maxRecDepth 100000 in
theorem m_faults {G : mG} {l : Launch} (d : Nat) {h : mH} {x s : Nat} {f4 f6 f8 f9 f10 f11 f12 f13 f14 f16 f18 : Int} {m kp was pool tape pln pap rwd rw : Nat → Int}(hB : isM h x (mFs x f4 f6 f8 f9 f10 f11 f12 f13 f14 f16 f18 s) m kp was pool tape pln pap rwd rw) (hM : ∀ q, InR (m q)) (h3 : 0 ≤ m 3 ∧ m 3 ≤ 10) {N : Nat} (hN : m 4 = (N : Int)) (hcap : N ≤ 120) {t : Int} (ht : InR t) : RUNM G l (d + 4) mX11_faults [.ref x, .int (J t)] h (fun v h' => v = some (.int (J (faultsV m N t))) ∧ h' = h) := by
  have hB0 := hB
  dsimp only [mFs] at hB
  refine RUNM.of (by decide +kernel) (Nat.le_of_ble_eq_true rfl) ?_
  refine r_aload_n (pc := 0) dX11_faults_0 rfl (by first | rfl | exact isRefV_rf _) ?_
  refine r_iload_n (pc := 1) dX11_faults_1 rfl ?_
  refine r_callV1 (pc := 2) dX11_faults_2 qX11_hasFaults kX11_229 vX11_hasFaults (by exact isM.gx (by assumption)) rfl rfl (Nat.le_of_ble_eq_true rfl) (m_hasFaults (d + 1) hB0 hM h3 ht) (fun v_2 h_2 q_2 => ?_)
  obtain ⟨rfl, rfl⟩ := q_2
  refine rj_if_eq (pc := 5) (tgt := 16) dX11_faults_5 (by decide) (by first | assumption | exact b01_r | exact bz_r | omega | (constructor <;> omega) | exact hM _ | exact hPo _ | exact hTa _ | exact hRo _) (fun c_5 => ?_) (fun c_5 => ?_)
  · try simp only [b01_0, bz_0, Classical.not_not] at c_5
    refine rj_iconst (pc := 16) dX11_faults_16 ?_
    refine r_ireturn (pc := 17) .int dX11_faults_17 rfl (by first | rfl | assumption) ?_
    first
    | exact ⟨by unfold faultsV; rw [if_pos c_5], rfl⟩
    | exact ⟨by unfold faultsV; rw [if_neg c_5], rfl⟩
  · try simp only [b01_0, bz_0, Classical.not_not] at c_5
    refine r_aload_n (pc := 8) dX11_faults_8 rfl (by first | rfl | exact isRefV_rf _) ?_
    refine r_iload_n (pc := 9) dX11_faults_9 rfl ?_
    refine r_callV1 (pc := 10) dX11_faults_10 qX11_manyFaults kX11_232 vX11_manyFaults (by exact isM.gx (by assumption)) rfl rfl (Nat.le_of_ble_eq_true rfl) (m_manyFaults d hB0 hM hN hcap ht (by omega)) (fun v_10 h_10 q_10 => ?_)
    obtain ⟨rfl, rfl⟩ := q_10
    refine r_goto (pc := 13) (tgt := 17) dX11_faults_13 (by decide) ?_
    refine r_ireturn (pc := 17) .int dX11_faults_17 rfl (by first | rfl | assumption) ?_
    first
    | exact ⟨by unfold faultsV; rw [if_pos c_5], rfl⟩
    | exact ⟨by unfold faultsV; rw [if_neg c_5], rfl⟩
def toldV (m : Nat → Int) (f6 f18 : Int) (N C T : Nat) (k : Int) : Int := if k = 0 then m 0 else if k = 1 then cnt (openB m) C else if k = 2 then m 1 else if k = 3 then cnt (heldB m) N else if k = 4 then m 3 else if k = 5 then cnt (readyB m) T else if k = 6 then m 7 else if k = 7 then m 2 else if k = 8 then f6 else if k = 9 then f18 else -1
set_option maxHeartbeats 4000000 in
set_option maxRecDepth 100000 in
theorem m_told {G : mG} {l : Launch} (d : Nat) {h : mH} {x s : Nat} {f4 f6 f8 f9 f10 f11 f12 f13 f14 f16 f18 : Int} {m kp was pool tape pln pap rwd rw : Nat → Int}(hB : isM h x (mFs x f4 f6 f8 f9 f10 f11 f12 f13 f14 f16 f18 s) m kp was pool tape pln pap rwd rw) (hM : ∀ q, InR (m q)) {N C T : Nat} (hN : m 1 = (N : Int)) (hcap : N ≤ 90) (hC : m 0 = (C : Int)) (hC2 : C ≤ 60) (hT : m 3 = (T : Int)) (hT2 : T ≤ 10) {k : Int} (hk : InR k) : RUNM G l (d + 4) mX11_told [.ref x, .int (J k)] h (fun v h' => v = some (.int (J (toldV m f6 f18 N C T k))) ∧ h' = h) := by
  have hB0 := hB
  dsimp only [mFs] at hB
  refine RUNM.of (by decide +kernel) (Nat.le_of_ble_eq_true rfl) ?_
  refine r_iload_n (pc := 0) dX11_told_0 rfl ?_
  refine rj_tsw (pc := 1) dX11_told_1 (by first | assumption | exact b01_r | exact bz_r | omega | (constructor <;> omega) | exact hM _ | exact hPo _ | exact hTa _ | exact hRo _) (by decide) (by decide) (by decide) (fun off_1 tgt_1 ho_1 ht_1 => ?_)
  by_cases e_1_0 : k = 0
  · rw [e_1_0] at ho_1
    obtain rfl : off_1 = 55 := ho_1.symm.trans (by decide)
    obtain rfl : tgt_1 = 56 := by omega
    refine r_aload_n (pc := 56) dX11_told_56 rfl (by first | rfl | exact isRefV_rf _) ?_
    refine rm_getf (pc := 57) dX11_told_57 fX11_11 (by assumption) rfl ?_
    refine rj_iconst (pc := 60) dX11_told_60 ?_
    refine rj_iald (pc := 61) (j := 0) dX11_told_61 (by first | exact isM.g0 (by assumption) | exact isM.g3 (by assumption) | exact isM.g4 (by assumption) | exact isM.g8 (by assumption) | exact isM.g7 (by assumption) | exact isM.g6 (by assumption) | exact isM.g5 (by assumption) | exact isM.g1 (by assumption) | exact isM.g2 (by assumption)) (by first | assumption | exact b01_r | exact bz_r | omega | (constructor <;> omega) | exact hM _ | exact hPo _ | exact hTa _ | exact hRo _) (by first | assumption | exact b01_r | exact bz_r | omega | (constructor <;> omega) | exact hM _ | exact hPo _ | exact hTa _ | exact hRo _) (by first | assumption | exact b01_r | exact bz_r | omega | (constructor <;> omega) | exact hM _ | exact hPo _ | exact hTa _ | exact hRo _) rfl ?_
    refine r_ireturn (pc := 62) .int dX11_told_62 rfl (by first | rfl | assumption) ?_
    exact ⟨by unfold toldV; rw [if_pos e_1_0], rfl⟩
  by_cases e_1_1 : k = 1
  · rw [e_1_1] at ho_1
    obtain rfl : off_1 = 62 := ho_1.symm.trans (by decide)
    obtain rfl : tgt_1 = 63 := by omega
    refine r_aload_n (pc := 63) dX11_told_63 rfl (by first | rfl | exact isRefV_rf _) ?_
    refine r_callV0 (pc := 64) dX11_told_64 qX11_opened kX11_292 vX11_opened (by exact isM.gx (by assumption)) rfl rfl (Nat.le_of_ble_eq_true rfl) (m_opened d hB0 hM hC hC2) (fun v_64 h_64 q_64 => ?_)
    obtain ⟨rfl, rfl⟩ := q_64
    refine r_ireturn (pc := 67) .int dX11_told_67 rfl (by first | rfl | assumption) ?_
    exact ⟨by unfold toldV; rw [if_neg e_1_0, if_pos e_1_1], rfl⟩
  by_cases e_1_2 : k = 2
  · rw [e_1_2] at ho_1
    obtain rfl : off_1 = 67 := ho_1.symm.trans (by decide)
    obtain rfl : tgt_1 = 68 := by omega
    refine r_aload_n (pc := 68) dX11_told_68 rfl (by first | rfl | exact isRefV_rf _) ?_
    refine rm_getf (pc := 69) dX11_told_69 fX11_11 (by assumption) rfl ?_
    refine rj_iconst (pc := 72) dX11_told_72 ?_
    refine rj_iald (pc := 73) (j := 1) dX11_told_73 (by first | exact isM.g0 (by assumption) | exact isM.g3 (by assumption) | exact isM.g4 (by assumption) | exact isM.g8 (by assumption) | exact isM.g7 (by assumption) | exact isM.g6 (by assumption) | exact isM.g5 (by assumption) | exact isM.g1 (by assumption) | exact isM.g2 (by assumption)) (by first | assumption | exact b01_r | exact bz_r | omega | (constructor <;> omega) | exact hM _ | exact hPo _ | exact hTa _ | exact hRo _) (by first | assumption | exact b01_r | exact bz_r | omega | (constructor <;> omega) | exact hM _ | exact hPo _ | exact hTa _ | exact hRo _) (by first | assumption | exact b01_r | exact bz_r | omega | (constructor <;> omega) | exact hM _ | exact hPo _ | exact hTa _ | exact hRo _) rfl ?_
    refine r_ireturn (pc := 74) .int dX11_told_74 rfl (by first | rfl | assumption) ?_
    exact ⟨by unfold toldV; rw [if_neg e_1_0, if_neg e_1_1, if_pos e_1_2], rfl⟩
  by_cases e_1_3 : k = 3
  · rw [e_1_3] at ho_1
    obtain rfl : off_1 = 74 := ho_1.symm.trans (by decide)
    obtain rfl : tgt_1 = 75 := by omega
    refine r_aload_n (pc := 75) dX11_told_75 rfl (by first | rfl | exact isRefV_rf _) ?_
    refine r_callV0 (pc := 76) dX11_told_76 qX11_held kX11_276 vX11_held (by exact isM.gx (by assumption)) rfl rfl (Nat.le_of_ble_eq_true rfl) (m_held (d + 1) hB0 hM hN hcap) (fun v_76 h_76 q_76 => ?_)
    obtain ⟨rfl, rfl⟩ := q_76
    refine r_ireturn (pc := 79) .int dX11_told_79 rfl (by first | rfl | assumption) ?_
    exact ⟨by unfold toldV; rw [if_neg e_1_0, if_neg e_1_1, if_neg e_1_2, if_pos e_1_3], rfl⟩
  by_cases e_1_4 : k = 4
  · rw [e_1_4] at ho_1
    obtain rfl : off_1 = 79 := ho_1.symm.trans (by decide)
    obtain rfl : tgt_1 = 80 := by omega
    refine r_aload_n (pc := 80) dX11_told_80 rfl (by first | rfl | exact isRefV_rf _) ?_
    refine rm_getf (pc := 81) dX11_told_81 fX11_11 (by assumption) rfl ?_
    refine rj_iconst (pc := 84) dX11_told_84 ?_
    refine rj_iald (pc := 85) (j := 3) dX11_told_85 (by first | exact isM.g0 (by assumption) | exact isM.g3 (by assumption) | exact isM.g4 (by assumption) | exact isM.g8 (by assumption) | exact isM.g7 (by assumption) | exact isM.g6 (by assumption) | exact isM.g5 (by assumption) | exact isM.g1 (by assumption) | exact isM.g2 (by assumption)) (by first | assumption | exact b01_r | exact bz_r | omega | (constructor <;> omega) | exact hM _ | exact hPo _ | exact hTa _ | exact hRo _) (by first | assumption | exact b01_r | exact bz_r | omega | (constructor <;> omega) | exact hM _ | exact hPo _ | exact hTa _ | exact hRo _) (by first | assumption | exact b01_r | exact bz_r | omega | (constructor <;> omega) | exact hM _ | exact hPo _ | exact hTa _ | exact hRo _) rfl ?_
    refine r_ireturn (pc := 86) .int dX11_told_86 rfl (by first | rfl | assumption) ?_
    exact ⟨by unfold toldV; rw [if_neg e_1_0, if_neg e_1_1, if_neg e_1_2, if_neg e_1_3, if_pos e_1_4], rfl⟩
  by_cases e_1_5 : k = 5
  · rw [e_1_5] at ho_1
    obtain rfl : off_1 = 86 := ho_1.symm.trans (by decide)
    obtain rfl : tgt_1 = 87 := by omega
    refine r_aload_n (pc := 87) dX11_told_87 rfl (by first | rfl | exact isRefV_rf _) ?_
    refine r_callV0 (pc := 88) dX11_told_88 qX11_readyOnes kX11_295 vX11_readyOnes (by exact isM.gx (by assumption)) rfl rfl (Nat.le_of_ble_eq_true rfl) (m_readyOnes (d + 1) hB0 hM hT hT2) (fun v_88 h_88 q_88 => ?_)
    obtain ⟨rfl, rfl⟩ := q_88
    refine r_ireturn (pc := 91) .int dX11_told_91 rfl (by first | rfl | assumption) ?_
    exact ⟨by unfold toldV; rw [if_neg e_1_0, if_neg e_1_1, if_neg e_1_2, if_neg e_1_3, if_neg e_1_4, if_pos e_1_5], rfl⟩
  by_cases e_1_6 : k = 6
  · rw [e_1_6] at ho_1
    obtain rfl : off_1 = 91 := ho_1.symm.trans (by decide)
    obtain rfl : tgt_1 = 92 := by omega
    refine r_aload_n (pc := 92) dX11_told_92 rfl (by first | rfl | exact isRefV_rf _) ?_
    refine rm_getf (pc := 93) dX11_told_93 fX11_11 (by assumption) rfl ?_
    refine rj_bipush (pc := 96) dX11_told_96 (by decide +kernel) ?_
    refine rj_iald (pc := 98) (j := 7) dX11_told_98 (by first | exact isM.g0 (by assumption) | exact isM.g3 (by assumption) | exact isM.g4 (by assumption) | exact isM.g8 (by assumption) | exact isM.g7 (by assumption) | exact isM.g6 (by assumption) | exact isM.g5 (by assumption) | exact isM.g1 (by assumption) | exact isM.g2 (by assumption)) (by first | assumption | exact b01_r | exact bz_r | omega | (constructor <;> omega) | exact hM _ | exact hPo _ | exact hTa _ | exact hRo _) (by first | assumption | exact b01_r | exact bz_r | omega | (constructor <;> omega) | exact hM _ | exact hPo _ | exact hTa _ | exact hRo _) (by first | assumption | exact b01_r | exact bz_r | omega | (constructor <;> omega) | exact hM _ | exact hPo _ | exact hTa _ | exact hRo _) rfl ?_
    refine r_ireturn (pc := 99) .int dX11_told_99 rfl (by first | rfl | assumption) ?_
    exact ⟨by unfold toldV; rw [if_neg e_1_0, if_neg e_1_1, if_neg e_1_2, if_neg e_1_3, if_neg e_1_4, if_neg e_1_5, if_pos e_1_6], rfl⟩
  by_cases e_1_7 : k = 7
  · rw [e_1_7] at ho_1
    obtain rfl : off_1 = 99 := ho_1.symm.trans (by decide)
    obtain rfl : tgt_1 = 100 := by omega
    refine r_aload_n (pc := 100) dX11_told_100 rfl (by first | rfl | exact isRefV_rf _) ?_
    refine rm_getf (pc := 101) dX11_told_101 fX11_11 (by assumption) rfl ?_
    refine rj_iconst (pc := 104) dX11_told_104 ?_
    refine rj_iald (pc := 105) (j := 2) dX11_told_105 (by first | exact isM.g0 (by assumption) | exact isM.g3 (by assumption) | exact isM.g4 (by assumption) | exact isM.g8 (by assumption) | exact isM.g7 (by assumption) | exact isM.g6 (by assumption) | exact isM.g5 (by assumption) | exact isM.g1 (by assumption) | exact isM.g2 (by assumption)) (by first | assumption | exact b01_r | exact bz_r | omega | (constructor <;> omega) | exact hM _ | exact hPo _ | exact hTa _ | exact hRo _) (by first | assumption | exact b01_r | exact bz_r | omega | (constructor <;> omega) | exact hM _ | exact hPo _ | exact hTa _ | exact hRo _) (by first | assumption | exact b01_r | exact bz_r | omega | (constructor <;> omega) | exact hM _ | exact hPo _ | exact hTa _ | exact hRo _) rfl ?_
    refine r_ireturn (pc := 106) .int dX11_told_106 rfl (by first | rfl | assumption) ?_
    exact ⟨by unfold toldV; rw [if_neg e_1_0, if_neg e_1_1, if_neg e_1_2, if_neg e_1_3, if_neg e_1_4, if_neg e_1_5, if_neg e_1_6, if_pos e_1_7], rfl⟩
  by_cases e_1_8 : k = 8
  · rw [e_1_8] at ho_1
    obtain rfl : off_1 = 106 := ho_1.symm.trans (by decide)
    obtain rfl : tgt_1 = 107 := by omega
    refine r_aload_n (pc := 107) dX11_told_107 rfl (by first | rfl | exact isRefV_rf _) ?_
    refine rm_getf (pc := 108) dX11_told_108 fX11_61 (by assumption) rfl ?_
    refine r_ireturn (pc := 111) .int dX11_told_111 rfl (by first | rfl | assumption) ?_
    exact ⟨by unfold toldV; rw [if_neg e_1_0, if_neg e_1_1, if_neg e_1_2, if_neg e_1_3, if_neg e_1_4, if_neg e_1_5, if_neg e_1_6, if_neg e_1_7, if_pos e_1_8], rfl⟩
  by_cases e_1_9 : k = 9
  · rw [e_1_9] at ho_1
    obtain rfl : off_1 = 111 := ho_1.symm.trans (by decide)
    obtain rfl : tgt_1 = 112 := by omega
    refine r_aload_n (pc := 112) dX11_told_112 rfl (by first | rfl | exact isRefV_rf _) ?_
    refine rm_getf (pc := 113) dX11_told_113 fX11_298 (by assumption) rfl ?_
    refine r_ireturn (pc := 116) .int dX11_told_116 rfl (by first | rfl | assumption) ?_
    exact ⟨by unfold toldV; rw [if_neg e_1_0, if_neg e_1_1, if_neg e_1_2, if_neg e_1_3, if_neg e_1_4, if_neg e_1_5, if_neg e_1_6, if_neg e_1_7, if_neg e_1_8, if_pos e_1_9], rfl⟩
  have eo_1 : off_1 = 116 := by
    rw [← ho_1]
    unfold tswOff
    rw [if_pos (by omega)]
  obtain rfl : tgt_1 = 117 := by omega
  refine rj_iconst (pc := 117) dX11_told_117 ?_
  refine r_ireturn (pc := 118) .int dX11_told_118 rfl (by first | rfl | assumption) ?_
  exact ⟨by unfold toldV; rw [if_neg e_1_0, if_neg e_1_1, if_neg e_1_2, if_neg e_1_3, if_neg e_1_4, if_neg e_1_5, if_neg e_1_6, if_neg e_1_7, if_neg e_1_8, if_neg e_1_9], rfl⟩
def nameV (m : Nat → Int) (t i : Int) : Int := if (0 ≤ t ∧ t ≤ m 1 - 1) ∧ (-1 ≤ i ∧ i ≤ m (261 + 14 * t).toNat - 1) then (if i < 0 then m (261 + 14 * t).toNat else m (265 + 14 * t + i).toNat) else -1
def lenOk (m : Nat → Int) : Prop := ∀ t : Int, 0 ≤ t → t ≤ m 1 - 1 → 0 ≤ m (261 + 14 * t).toNat ∧ m (261 + 14 * t).toNat ≤ 7
set_option maxHeartbeats 4000000 in
set_option maxRecDepth 100000 in
theorem m_name {G : mG} {l : Launch} (d : Nat) {h : mH} {x s : Nat} {f4 f6 f8 f9 f10 f11 f12 f13 f14 f16 f18 : Int} {m kp was pool tape pln pap rwd rw : Nat → Int}(hB : isM h x (mFs x f4 f6 f8 f9 f10 f11 f12 f13 f14 f16 f18 s) m kp was pool tape pln pap rwd rw) (hM : ∀ q, InR (m q)) (h1 : 0 ≤ m 1 ∧ m 1 ≤ 90) (hL : lenOk m) {t i : Int} (ht : InR t) (hi : InR i) : RUNM G l (d + 2) mX11_name [.ref x, .int (J t), .int (J i)] h (fun v h' => v = some (.int (J (nameV m t i))) ∧ h' = h) := by
  dsimp only [mFs] at hB
  refine RUNM.of (by decide +kernel) (Nat.le_of_ble_eq_true rfl) ?_
  refine r_aload_n (pc := 0) dX11_name_0 rfl (by first | rfl | exact isRefV_rf _) ?_
  refine r_iload_n (pc := 1) dX11_name_1 rfl ?_
  refine r_callV1 (pc := 2) dX11_name_2 qX11_isThing kX11_238 vX11_isThing (by exact isM.gx (by assumption)) rfl rfl (Nat.le_of_ble_eq_true rfl) (m_isThing d hB ht ⟨by omega, by omega⟩) (fun v_2 h_2 q_2 => ?_)
  obtain ⟨rfl, rfl⟩ := q_2
  refine rj_if_eq (pc := 5) (tgt := 29) dX11_name_5 (by decide) (by first | assumption | exact b01_r | exact bz_r | omega | (constructor <;> omega) | exact hM _ | exact hPo _ | exact hTa _ | exact hRo _) (fun c_5 => ?_) (fun c_5 => ?_)
  · try simp only [b01_0, bz_0, Classical.not_not] at c_5
    refine rj_iconst (pc := 29) dX11_name_29 ?_
    refine r_ireturn (pc := 30) .int dX11_name_30 rfl (by first | rfl | assumption) ?_
    first
    | exact ⟨by unfold nameV; rw [if_neg (fun g => c_5 g.1)], rfl⟩
    | exact ⟨by unfold nameV; rw [if_neg (fun g => c_26 g.2)], rfl⟩
    | exact ⟨by unfold nameV; rw [if_pos ⟨c_5, c_26⟩, if_neg (by omega)], rfl⟩
    | exact ⟨by unfold nameV; rw [if_pos ⟨c_5, c_26⟩, if_pos (by omega)], rfl⟩
  · try simp only [b01_0, bz_0, Classical.not_not] at c_5
    obtain ⟨l0, l7⟩ := hL t c_5.1 c_5.2
    refine r_iload_n (pc := 8) dX11_name_8 rfl ?_
    refine rj_iconst (pc := 9) dX11_name_9 ?_
    refine r_aload_n (pc := 10) dX11_name_10 rfl (by first | rfl | exact isRefV_rf _) ?_
    refine rm_getf (pc := 11) dX11_name_11 fX11_11 (by assumption) rfl ?_
    refine r_iload_n (pc := 14) dX11_name_14 rfl ?_
    refine rj_iconst (pc := 15) dX11_name_15 ?_
    refine rj_iconst (pc := 16) dX11_name_16 ?_
    refine r_callS3 (pc := 17) dX11_name_17 qX11_ofThing kX11_54 sX11_ofThing (Nat.le_of_ble_eq_true rfl) (m_ofThing (d + 1)) (fun v_17 h_17 q_17 => ?_)
    obtain ⟨rfl, rfl⟩ := q_17
    refine rj_iald (pc := 20) (j := (261 + 14 * t).toNat) dX11_name_20 (by first | exact isM.g0 (by assumption) | exact isM.g3 (by assumption) | exact isM.g4 (by assumption) | exact isM.g8 (by assumption) | exact isM.g7 (by assumption) | exact isM.g6 (by assumption) | exact isM.g5 (by assumption) | exact isM.g1 (by assumption) | exact isM.g2 (by assumption)) (by first | assumption | exact b01_r | exact bz_r | omega | (constructor <;> omega) | exact hM _ | exact hPo _ | exact hTa _ | exact hRo _) (by first | assumption | exact b01_r | exact bz_r | omega | (constructor <;> omega) | exact hM _ | exact hPo _ | exact hTa _ | exact hRo _) (by first | assumption | exact b01_r | exact bz_r | omega | (constructor <;> omega) | exact hM _ | exact hPo _ | exact hTa _ | exact hRo _) (by omega) ?_
    refine rj_iconst (pc := 21) dX11_name_21 ?_
    refine rj_isub (pc := 22) dX11_name_22 ?_
    refine r_callS3 (pc := 23) dX11_name_23 qX11_isIn kX11_46 sX11_isIn (Nat.le_of_ble_eq_true rfl) (m_isIn (d + 1) hi (by decide) ⟨by omega, by omega⟩) (fun v_23 h_23 q_23 => ?_)
    obtain ⟨rfl, rfl⟩ := q_23
    refine rj_if_ne (pc := 26) (tgt := 31) dX11_name_26 (by decide) (by first | assumption | exact b01_r | exact bz_r | omega | (constructor <;> omega) | exact hM _ | exact hPo _ | exact hTa _ | exact hRo _) (fun c_26 => ?_) (fun c_26 => ?_)
    · try simp only [b01_0, bz_0, Classical.not_not] at c_26
      refine r_iload_n (pc := 31) dX11_name_31 rfl ?_
      refine rj_if_ge (pc := 32) (tgt := 49) dX11_name_32 (by decide) (by first | assumption | exact b01_r | exact bz_r | omega | (constructor <;> omega) | exact hM _ | exact hPo _ | exact hTa _ | exact hRo _) (fun c_32 => ?_) (fun c_32 => ?_)
      · refine r_aload_n (pc := 49) dX11_name_49 rfl (by first | rfl | exact isRefV_rf _) ?_
        refine rm_getf (pc := 50) dX11_name_50 fX11_11 (by assumption) rfl ?_
        refine r_iload_n (pc := 53) dX11_name_53 rfl ?_
        refine rj_bipush (pc := 54) dX11_name_54 (by decide +kernel) ?_
        refine r_iload_n (pc := 56) dX11_name_56 rfl ?_
        refine r_callS3 (pc := 57) dX11_name_57 qX11_ofThing kX11_54 sX11_ofThing (Nat.le_of_ble_eq_true rfl) (m_ofThing (d + 1)) (fun v_57 h_57 q_57 => ?_)
        obtain ⟨rfl, rfl⟩ := q_57
        refine rj_iald (pc := 60) (j := (265 + 14 * t + i).toNat) dX11_name_60 (by first | exact isM.g0 (by assumption) | exact isM.g3 (by assumption) | exact isM.g4 (by assumption) | exact isM.g8 (by assumption) | exact isM.g7 (by assumption) | exact isM.g6 (by assumption) | exact isM.g5 (by assumption) | exact isM.g1 (by assumption) | exact isM.g2 (by assumption)) (by first | assumption | exact b01_r | exact bz_r | omega | (constructor <;> omega) | exact hM _ | exact hPo _ | exact hTa _ | exact hRo _) (by first | assumption | exact b01_r | exact bz_r | omega | (constructor <;> omega) | exact hM _ | exact hPo _ | exact hTa _ | exact hRo _) (by first | assumption | exact b01_r | exact bz_r | omega | (constructor <;> omega) | exact hM _ | exact hPo _ | exact hTa _ | exact hRo _) (by omega) ?_
        refine r_ireturn (pc := 61) .int dX11_name_61 rfl (by first | rfl | assumption) ?_
        first
        | exact ⟨by unfold nameV; rw [if_neg (fun g => c_5 g.1)], rfl⟩
        | exact ⟨by unfold nameV; rw [if_neg (fun g => c_26 g.2)], rfl⟩
        | exact ⟨by unfold nameV; rw [if_pos ⟨c_5, c_26⟩, if_neg (by omega)], rfl⟩
        | exact ⟨by unfold nameV; rw [if_pos ⟨c_5, c_26⟩, if_pos (by omega)], rfl⟩
      · refine r_aload_n (pc := 35) dX11_name_35 rfl (by first | rfl | exact isRefV_rf _) ?_
        refine rm_getf (pc := 36) dX11_name_36 fX11_11 (by assumption) rfl ?_
        refine r_iload_n (pc := 39) dX11_name_39 rfl ?_
        refine rj_iconst (pc := 40) dX11_name_40 ?_
        refine rj_iconst (pc := 41) dX11_name_41 ?_
        refine r_callS3 (pc := 42) dX11_name_42 qX11_ofThing kX11_54 sX11_ofThing (Nat.le_of_ble_eq_true rfl) (m_ofThing (d + 1)) (fun v_42 h_42 q_42 => ?_)
        obtain ⟨rfl, rfl⟩ := q_42
        refine rj_iald (pc := 45) (j := (261 + 14 * t).toNat) dX11_name_45 (by first | exact isM.g0 (by assumption) | exact isM.g3 (by assumption) | exact isM.g4 (by assumption) | exact isM.g8 (by assumption) | exact isM.g7 (by assumption) | exact isM.g6 (by assumption) | exact isM.g5 (by assumption) | exact isM.g1 (by assumption) | exact isM.g2 (by assumption)) (by first | assumption | exact b01_r | exact bz_r | omega | (constructor <;> omega) | exact hM _ | exact hPo _ | exact hTa _ | exact hRo _) (by first | assumption | exact b01_r | exact bz_r | omega | (constructor <;> omega) | exact hM _ | exact hPo _ | exact hTa _ | exact hRo _) (by first | assumption | exact b01_r | exact bz_r | omega | (constructor <;> omega) | exact hM _ | exact hPo _ | exact hTa _ | exact hRo _) (by omega) ?_
        refine r_goto (pc := 46) (tgt := 61) dX11_name_46 (by decide) ?_
        refine r_ireturn (pc := 61) .int dX11_name_61 rfl (by first | rfl | assumption) ?_
        first
        | exact ⟨by unfold nameV; rw [if_neg (fun g => c_5 g.1)], rfl⟩
        | exact ⟨by unfold nameV; rw [if_neg (fun g => c_26 g.2)], rfl⟩
        | exact ⟨by unfold nameV; rw [if_pos ⟨c_5, c_26⟩, if_neg (by omega)], rfl⟩
        | exact ⟨by unfold nameV; rw [if_pos ⟨c_5, c_26⟩, if_pos (by omega)], rfl⟩
    · try simp only [b01_0, bz_0, Classical.not_not] at c_26
      refine rj_iconst (pc := 29) dX11_name_29 ?_
      refine r_ireturn (pc := 30) .int dX11_name_30 rfl (by first | rfl | assumption) ?_
      first
      | exact ⟨by unfold nameV; rw [if_neg (fun g => c_5 g.1)], rfl⟩
      | exact ⟨by unfold nameV; rw [if_neg (fun g => c_26 g.2)], rfl⟩
      | exact ⟨by unfold nameV; rw [if_pos ⟨c_5, c_26⟩, if_neg (by omega)], rfl⟩
      | exact ⟨by unfold nameV; rw [if_pos ⟨c_5, c_26⟩, if_pos (by omega)], rfl⟩
end mg_39
section mg_40
/-! ===== contracts of the reference: counter, get, youngest, entry ===== -/
/-- an int as a long -/
noncomputable def lgV (z : Int) : Value := .long (J z).toInt64
def lgNo : Value := .long (-9223372036854775808)
noncomputable def counterV (m : Nat → Int) (k : Int) : Value := if 0 ≤ k ∧ k ≤ 7 then lgV (m (10 + k).toNat) else lgNo
set_option maxHeartbeats 4000000 in
set_option maxRecDepth 100000 in
theorem m_counter {G : mG} {l : Launch} (d : Nat) {h : mH} {x s : Nat} {f4 f6 f8 f9 f10 f11 f12 f13 f14 f16 f18 : Int} {m kp was pool tape pln pap rwd rw : Nat → Int}(hB : isM h x (mFs x f4 f6 f8 f9 f10 f11 f12 f13 f14 f16 f18 s) m kp was pool tape pln pap rwd rw) {k : Int} (hk : InR k) : RUNM G l (d + 1) mX11_counter [.ref x, .int (J k)] h (fun v h' => v = some (counterV m k) ∧ h' = h) := by
  dsimp only [mFs] at hB
  refine RUNM.of (by decide +kernel) (Nat.le_of_ble_eq_true rfl) ?_
  refine r_iload_n (pc := 0) dX11_counter_0 rfl ?_
  refine rj_iconst (pc := 1) dX11_counter_1 ?_
  refine rj_bipush (pc := 2) dX11_counter_2 (by decide +kernel) ?_
  refine r_callS3 (pc := 4) dX11_counter_4 qX11_isIn kX11_46 sX11_isIn (Nat.le_of_ble_eq_true rfl) (m_isIn d hk (by decide) (by decide)) (fun v_4 h_4 q_4 => ?_)
  obtain ⟨rfl, rfl⟩ := q_4
  refine rj_if_eq (pc := 7) (tgt := 23) dX11_counter_7 (by decide) (by first | assumption | exact b01_r | exact bz_r | omega | (constructor <;> omega) | exact hM _ | exact hPo _ | exact hTa _ | exact hRo _) (fun c_7 => ?_) (fun c_7 => ?_)
  · try simp only [b01_0, bz_0, Classical.not_not] at c_7
    refine r_ldc2 (pc := 23) dX11_counter_23 oX11_244 ?_
    refine r_lreturn (pc := 26) dX11_counter_26 rfl ?_
    first
    | exact ⟨by unfold counterV; rw [if_pos c_7]; rfl, rfl⟩
    | exact ⟨by unfold counterV; rw [if_neg c_7]; rfl, rfl⟩
  · try simp only [b01_0, bz_0, Classical.not_not] at c_7
    refine r_aload_n (pc := 10) dX11_counter_10 rfl (by first | rfl | exact isRefV_rf _) ?_
    refine rm_getf (pc := 11) dX11_counter_11 fX11_11 (by assumption) rfl ?_
    refine rj_bipush (pc := 14) dX11_counter_14 (by decide +kernel) ?_
    refine r_iload_n (pc := 16) dX11_counter_16 rfl ?_
    refine rj_iadd (pc := 17) dX11_counter_17 ?_
    refine rj_iald (pc := 18) (j := (10 + k).toNat) dX11_counter_18 (by first | exact isM.g0 (by assumption) | exact isM.g3 (by assumption) | exact isM.g4 (by assumption) | exact isM.g8 (by assumption) | exact isM.g7 (by assumption) | exact isM.g6 (by assumption) | exact isM.g5 (by assumption) | exact isM.g1 (by assumption) | exact isM.g2 (by assumption)) (by first | assumption | exact b01_r | exact bz_r | omega | (constructor <;> omega) | exact hM _ | exact hPo _ | exact hTa _ | exact hRo _) (by first | assumption | exact b01_r | exact bz_r | omega | (constructor <;> omega) | exact hM _ | exact hPo _ | exact hTa _ | exact hRo _) (by first | assumption | exact b01_r | exact bz_r | omega | (constructor <;> omega) | exact hM _ | exact hPo _ | exact hTa _ | exact hRo _) (by omega) ?_
    refine r_i2l (pc := 19) dX11_counter_19 ?_
    refine r_goto (pc := 20) (tgt := 26) dX11_counter_20 (by decide) ?_
    refine r_lreturn (pc := 26) dX11_counter_26 rfl ?_
    first
    | exact ⟨by unfold counterV; rw [if_pos c_7]; rfl, rfl⟩
    | exact ⟨by unfold counterV; rw [if_neg c_7]; rfl, rfl⟩
noncomputable def getV (rwd rw : Nat → Int) (a i : Int) : Value := if wrongV rwd a = 0 ∧ (0 ≤ i ∧ i ≤ rwd a.toNat - 1) then lgV (rw (40 * a + i).toNat) else lgNo
set_option maxHeartbeats 4000000 in
set_option maxRecDepth 100000 in
theorem m_get {G : mG} {l : Launch} (d : Nat) {h : mH} {x s : Nat} {f4 f6 f8 f9 f10 f11 f12 f13 f14 f16 f18 : Int} {m kp was pool tape pln pap rwd rw : Nat → Int}(hB : isM h x (mFs x f4 f6 f8 f9 f10 f11 f12 f13 f14 f16 f18 s) m kp was pool tape pln pap rwd rw) (hRo : ∀ q, InR (rwd q)) {a : Int} (ha : InR a) {i : Int} (hi : InR i) (h40 : ∀ q, rwd q ≤ 40) : RUNM G l (d + 3) mX11_get [.ref x, .int (J a), .int (J i)] h (fun v h' => v = some (getV rwd rw a i) ∧ h' = h) := by
  have hB0 := hB
  dsimp only [mFs] at hB
  refine RUNM.of (by decide +kernel) (Nat.le_of_ble_eq_true rfl) ?_
  refine r_aload_n (pc := 0) dX11_get_0 rfl (by first | rfl | exact isRefV_rf _) ?_
  refine r_iload_n (pc := 1) dX11_get_1 rfl ?_
  refine r_callV1 (pc := 2) dX11_get_2 qX11_wrong kX11_307 vX11_wrong (by exact isM.gx (by assumption)) rfl rfl (Nat.le_of_ble_eq_true rfl) (m_wrong d hB0 hRo ha) (fun v_2 h_2 q_2 => ?_)
  obtain ⟨rfl, rfl⟩ := q_2
  have wr := wrong_r (rwd := rwd) (a := a)
  refine rj_if_ne (pc := 5) (tgt := 24) dX11_get_5 (by decide) (by first | assumption | exact b01_r | exact bz_r | omega | (constructor <;> omega) | exact hM _ | exact hPo _ | exact hTa _ | exact hRo _) (fun c_5 => ?_) (fun c_5 => ?_)
  · try simp only [b01_0, bz_0, Classical.not_not] at c_5
    refine r_ldc2 (pc := 24) dX11_get_24 oX11_244 ?_
    refine r_goto (pc := 27) (tgt := 42) dX11_get_27 (by decide) ?_
    refine r_lreturn (pc := 42) dX11_get_42 rfl ?_
    first
    | exact ⟨by unfold getV; rw [if_pos ⟨c_5, c_21⟩]; rfl, rfl⟩
    | exact ⟨by unfold getV; rw [if_neg (fun g => c_5 g.1)]; rfl, rfl⟩
    | exact ⟨by unfold getV; rw [if_neg (fun g => c_21 g.2)]; rfl, rfl⟩
  · try simp only [b01_0, bz_0, Classical.not_not] at c_5
    have w0 := wrong_0 c_5
    have r4 := h40 a.toNat
    refine r_iload_n (pc := 8) dX11_get_8 rfl ?_
    refine rj_iconst (pc := 9) dX11_get_9 ?_
    refine r_aload_n (pc := 10) dX11_get_10 rfl (by first | rfl | exact isRefV_rf _) ?_
    refine rm_getf (pc := 11) dX11_get_11 fX11_36 (by assumption) rfl ?_
    refine r_iload_n (pc := 14) dX11_get_14 rfl ?_
    refine rj_iald (pc := 15) dX11_get_15 (by first | exact isM.g0 (by assumption) | exact isM.g3 (by assumption) | exact isM.g4 (by assumption) | exact isM.g8 (by assumption) | exact isM.g7 (by assumption) | exact isM.g6 (by assumption) | exact isM.g5 (by assumption) | exact isM.g1 (by assumption) | exact isM.g2 (by assumption)) (by first | assumption | exact b01_r | exact bz_r | omega | (constructor <;> omega) | exact hM _ | exact hPo _ | exact hTa _ | exact hRo _) (by first | assumption | exact b01_r | exact bz_r | omega | (constructor <;> omega) | exact hM _ | exact hPo _ | exact hTa _ | exact hRo _) (by first | assumption | exact b01_r | exact bz_r | omega | (constructor <;> omega) | exact hM _ | exact hPo _ | exact hTa _ | exact hRo _) rfl ?_
    refine rj_iconst (pc := 16) dX11_get_16 ?_
    refine rj_isub (pc := 17) dX11_get_17 ?_
    refine r_callS3 (pc := 18) dX11_get_18 qX11_isIn kX11_46 sX11_isIn (Nat.le_of_ble_eq_true rfl) (m_isIn (d + 2) hi (by decide) ⟨by omega, by omega⟩) (fun v_18 h_18 q_18 => ?_)
    obtain ⟨rfl, rfl⟩ := q_18
    refine rj_if_ne (pc := 21) (tgt := 30) dX11_get_21 (by decide) (by first | assumption | exact b01_r | exact bz_r | omega | (constructor <;> omega) | exact hM _ | exact hPo _ | exact hTa _ | exact hRo _) (fun c_21 => ?_) (fun c_21 => ?_)
    · try simp only [b01_0, bz_0, Classical.not_not] at c_21
      refine r_aload_n (pc := 30) dX11_get_30 rfl (by first | rfl | exact isRefV_rf _) ?_
      refine rm_getf (pc := 31) dX11_get_31 fX11_39 (by assumption) rfl ?_
      refine rj_bipush (pc := 34) dX11_get_34 (by decide +kernel) ?_
      refine r_iload_n (pc := 36) dX11_get_36 rfl ?_
      refine rj_imul (pc := 37) dX11_get_37 ?_
      refine r_iload_n (pc := 38) dX11_get_38 rfl ?_
      refine rj_iadd (pc := 39) dX11_get_39 ?_
      refine rj_iald (pc := 40) (j := (40 * a + i).toNat) dX11_get_40 (by first | exact isM.g0 (by assumption) | exact isM.g3 (by assumption) | exact isM.g4 (by assumption) | exact isM.g8 (by assumption) | exact isM.g7 (by assumption) | exact isM.g6 (by assumption) | exact isM.g5 (by assumption) | exact isM.g1 (by assumption) | exact isM.g2 (by assumption)) (by first | assumption | exact b01_r | exact bz_r | omega | (constructor <;> omega) | exact hM _ | exact hPo _ | exact hTa _ | exact hRo _) (by first | assumption | exact b01_r | exact bz_r | omega | (constructor <;> omega) | exact hM _ | exact hPo _ | exact hTa _ | exact hRo _) (by first | assumption | exact b01_r | exact bz_r | omega | (constructor <;> omega) | exact hM _ | exact hPo _ | exact hTa _ | exact hRo _) (by omega) ?_
      refine r_i2l (pc := 41) dX11_get_41 ?_
      refine r_lreturn (pc := 42) dX11_get_42 rfl ?_
      first
      | exact ⟨by unfold getV; rw [if_pos ⟨c_5, c_21⟩]; rfl, rfl⟩
      | exact ⟨by unfold getV; rw [if_neg (fun g => c_5 g.1)]; rfl, rfl⟩
      | exact ⟨by unfold getV; rw [if_neg (fun g => c_21 g.2)]; rfl, rfl⟩
    · try simp only [b01_0, bz_0, Classical.not_not] at c_21
      refine r_ldc2 (pc := 24) dX11_get_24 oX11_244 ?_
      refine r_goto (pc := 27) (tgt := 42) dX11_get_27 (by decide) ?_
      refine r_lreturn (pc := 42) dX11_get_42 rfl ?_
      first
      | exact ⟨by unfold getV; rw [if_pos ⟨c_5, c_21⟩]; rfl, rfl⟩
      | exact ⟨by unfold getV; rw [if_neg (fun g => c_5 g.1)]; rfl, rfl⟩
      | exact ⟨by unfold getV; rw [if_neg (fun g => c_21 g.2)]; rfl, rfl⟩
def ygL (m : Nat → Int) (C : Nat) (a : Int) : Nat → Nat → Int → Int
  | 0, _, f => f
  | n + 1, t, f => ygL m C a n (t + 1) (if heldInB m C a t = true then (t : Int) else f)
def youngV (m : Nat → Int) (N C : Nat) (a : Int) : Int := if 0 ≤ a ∧ a ≤ m 0 - 1 then ygL m C a N 0 (-5) else -1
set_option maxHeartbeats 4000000 in
set_option maxRecDepth 100000 in
theorem L_youngest {G : mG} {l : Launch} (d : Nat) {h : mH} {x s : Nat} {f4 f6 f8 f9 f10 f11 f12 f13 f14 f16 f18 : Int} {m kp was pool tape pln pap rwd rw : Nat → Int}(hB : isM h x (mFs x f4 f6 f8 f9 f10 f11 f12 f13 f14 f16 f18 s) m kp was pool tape pln pap rwd rw) (hM : ∀ q, InR (m q)) {N C : Nat} (hN : m 1 = (N : Int)) (hcap : N ≤ 90) (hC : m 0 = (C : Int)) (hC2 : C ≤ 60) (hP : parOk m C) (hO : ownOk m N C) {a : Int} (ha : InR a) : ∀ (n t : Nat) (f : Int), t + n = N → RUN G l (d + 3) mX11_youngest 15 [some (.ref x), some (.int (J a)), some (.int (J f)), some (.int (J (t : Int)))] [] h (fun v h' => v = some (.int (J (ygL m C a n t f))) ∧ h' = h) := by
  dsimp only [mFs] at hB
  have r1 := hM 1
  intro n
  induction n with
  | zero =>
    intro t f ht
    refine r_iload_n (pc := 15) dX11_youngest_15 rfl ?_
    refine r_aload_n (pc := 16) dX11_youngest_16 rfl (by first | rfl | exact isRefV_rf _) ?_
    refine rm_getf (pc := 17) dX11_youngest_17 fX11_11 (by assumption) rfl ?_
    refine rj_iconst (pc := 20) dX11_youngest_20 ?_
    refine rj_iald (pc := 21) (j := 1) dX11_youngest_21 (by first | exact isM.g0 (by assumption) | exact isM.g3 (by assumption) | exact isM.g4 (by assumption) | exact isM.g8 (by assumption) | exact isM.g7 (by assumption) | exact isM.g6 (by assumption) | exact isM.g5 (by assumption) | exact isM.g1 (by assumption) | exact isM.g2 (by assumption)) (by first | assumption | exact b01_r | exact bz_r | omega | (constructor <;> omega) | exact hM _ | exact hPo _ | exact hTa _ | exact hRo _) (by first | assumption | exact b01_r | exact bz_r | omega | (constructor <;> omega) | exact hM _ | exact hPo _ | exact hTa _ | exact hRo _) (by first | assumption | exact b01_r | exact bz_r | omega | (constructor <;> omega) | exact hM _ | exact hPo _ | exact hTa _ | exact hRo _) rfl ?_
    refine rj_icmp_ge (pc := 22) (tgt := 60) dX11_youngest_22 (by decide) (by first | assumption | exact b01_r | exact bz_r | omega | (constructor <;> omega) | exact hM _ | exact hPo _ | exact hTa _ | exact hRo _) (by first | assumption | exact b01_r | exact bz_r | omega | (constructor <;> omega) | exact hM _ | exact hPo _ | exact hTa _ | exact hRo _) (fun c_22 => ?_) (fun c_22 => ?_)
    · refine r_iload_n (pc := 60) dX11_youngest_60 rfl ?_
      refine r_ireturn (pc := 61) .int dX11_youngest_61 rfl (by first | rfl | assumption) ?_
      exact ⟨rfl, rfl⟩
    · exfalso; omega
  | succ n ih =>
    intro t f ht
    refine r_iload_n (pc := 15) dX11_youngest_15 rfl ?_
    refine r_aload_n (pc := 16) dX11_youngest_16 rfl (by first | rfl | exact isRefV_rf _) ?_
    refine rm_getf (pc := 17) dX11_youngest_17 fX11_11 (by assumption) rfl ?_
    refine rj_iconst (pc := 20) dX11_youngest_20 ?_
    refine rj_iald (pc := 21) (j := 1) dX11_youngest_21 (by first | exact isM.g0 (by assumption) | exact isM.g3 (by assumption) | exact isM.g4 (by assumption) | exact isM.g8 (by assumption) | exact isM.g7 (by assumption) | exact isM.g6 (by assumption) | exact isM.g5 (by assumption) | exact isM.g1 (by assumption) | exact isM.g2 (by assumption)) (by first | assumption | exact b01_r | exact bz_r | omega | (constructor <;> omega) | exact hM _ | exact hPo _ | exact hTa _ | exact hRo _) (by first | assumption | exact b01_r | exact bz_r | omega | (constructor <;> omega) | exact hM _ | exact hPo _ | exact hTa _ | exact hRo _) (by first | assumption | exact b01_r | exact bz_r | omega | (constructor <;> omega) | exact hM _ | exact hPo _ | exact hTa _ | exact hRo _) rfl ?_
    refine rj_icmp_ge (pc := 22) (tgt := 60) dX11_youngest_22 (by decide) (by first | assumption | exact b01_r | exact bz_r | omega | (constructor <;> omega) | exact hM _ | exact hPo _ | exact hTa _ | exact hRo _) (by first | assumption | exact b01_r | exact bz_r | omega | (constructor <;> omega) | exact hM _ | exact hPo _ | exact hTa _ | exact hRo _) (fun c_22 => ?_) (fun c_22 => ?_)
    · refine r_iload_n (pc := 60) dX11_youngest_60 rfl ?_
      refine r_ireturn (pc := 61) .int dX11_youngest_61 rfl (by first | rfl | assumption) ?_
      exfalso; omega
    · refine r_aload_n (pc := 25) dX11_youngest_25 rfl (by first | rfl | exact isRefV_rf _) ?_
      refine r_iload_n (pc := 26) dX11_youngest_26 rfl ?_
      refine r_callV1 (pc := 27) dX11_youngest_27 qX11_isHeld kX11_119 vX11_isHeld (by exact isM.gx (by assumption)) rfl rfl (Nat.le_of_ble_eq_true rfl) (m_isHeld (d + 1) hB hM (by omega) (by omega)) (fun v_27 h_27 q_27 => ?_)
      obtain ⟨rfl, rfl⟩ := q_27
      refine rj_if_eq (pc := 30) (tgt := 54) dX11_youngest_30 (by decide) (by first | assumption | exact b01_r | exact bz_r | omega | (constructor <;> omega) | exact hM _ | exact hPo _ | exact hTa _ | exact hRo _) (fun c_30 => ?_) (fun c_30 => ?_)
      · try simp only [b01_0, bz_0, Classical.not_not] at c_30
        refine rj_iinc (pc := 54) dX11_youngest_54 (Nat.le_of_ble_eq_true rfl) rfl ?_
        dsimp only [lsSt, List.set, mLs, mEnt]
        refine r_goto (pc := 57) (tgt := 15) dX11_youngest_57 (by decide) ?_
        have z := ih (t + 1) f (by omega)
        rw [ygL, if_neg (by simp only [n_held] at *; unfold heldInB heldB; simp [c_30])]
        exact z
      · try simp only [b01_0, bz_0, Classical.not_not] at c_30
        refine r_aload_n (pc := 33) dX11_youngest_33 rfl (by first | rfl | exact isRefV_rf _) ?_
        refine r_aload_n (pc := 34) dX11_youngest_34 rfl (by first | rfl | exact isRefV_rf _) ?_
        refine rm_getf (pc := 35) dX11_youngest_35 fX11_11 (by assumption) rfl ?_
        refine r_iload_n (pc := 38) dX11_youngest_38 rfl ?_
        refine rj_iconst (pc := 39) dX11_youngest_39 ?_
        refine rj_iconst (pc := 40) dX11_youngest_40 ?_
        refine r_callS3 (pc := 41) dX11_youngest_41 qX11_ofThing kX11_54 sX11_ofThing (Nat.le_of_ble_eq_true rfl) (m_ofThing (d + 2)) (fun v_41 h_41 q_41 => ?_)
        obtain ⟨rfl, rfl⟩ := q_41
        refine rj_iald (pc := 44) (j := 259 + 14 * t) dX11_youngest_44 (by first | exact isM.g0 (by assumption) | exact isM.g3 (by assumption) | exact isM.g4 (by assumption) | exact isM.g8 (by assumption) | exact isM.g7 (by assumption) | exact isM.g6 (by assumption) | exact isM.g5 (by assumption) | exact isM.g1 (by assumption) | exact isM.g2 (by assumption)) (by first | assumption | exact b01_r | exact bz_r | omega | (constructor <;> omega) | exact hM _ | exact hPo _ | exact hTa _ | exact hRo _) (by first | assumption | exact b01_r | exact bz_r | omega | (constructor <;> omega) | exact hM _ | exact hPo _ | exact hTa _ | exact hRo _) (by first | assumption | exact b01_r | exact bz_r | omega | (constructor <;> omega) | exact hM _ | exact hPo _ | exact hTa _ | exact hRo _) (by omega) ?_
        refine r_iload_n (pc := 45) dX11_youngest_45 rfl ?_
        refine r_callV2 (pc := 46) dX11_youngest_46 qX11_isBelow kX11_246 vX11_isBelow (by exact isM.gx (by assumption)) rfl rfl (Nat.le_of_ble_eq_true rfl) (m_isBelow (d + 1) hB hC2 hP ha (by have := hO t (by omega); omega) (by have := hO t (by omega); omega)) (fun v_46 h_46 q_46 => ?_)
        obtain ⟨rfl, rfl⟩ := q_46
        refine rj_if_eq (pc := 49) (tgt := 54) dX11_youngest_49 (by decide) (by first | assumption | exact b01_r | exact bz_r | omega | (constructor <;> omega) | exact hM _ | exact hPo _ | exact hTa _ | exact hRo _) (fun c_49 => ?_) (fun c_49 => ?_)
        · try simp only [b01_0, bz_0, Classical.not_not] at c_49
          refine rj_iinc (pc := 54) dX11_youngest_54 (Nat.le_of_ble_eq_true rfl) rfl ?_
          dsimp only [lsSt, List.set, mLs, mEnt]
          refine r_goto (pc := 57) (tgt := 15) dX11_youngest_57 (by decide) ?_
          have z := ih (t + 1) f (by omega)
          rw [ygL, if_neg (by simp only [n_held] at *; unfold heldInB heldB; simp [c_49])]
          exact z
        · try simp only [b01_0, bz_0, Classical.not_not] at c_49
          refine r_iload_n (pc := 52) dX11_youngest_52 rfl ?_
          refine r_istore_n (pc := 53) dX11_youngest_53 (Nat.le_of_ble_eq_true rfl) ?_
          dsimp only [lsSt, List.set, mLs, mEnt]
          refine rj_iinc (pc := 54) dX11_youngest_54 (Nat.le_of_ble_eq_true rfl) rfl ?_
          dsimp only [lsSt, List.set, mLs, mEnt]
          refine r_goto (pc := 57) (tgt := 15) dX11_youngest_57 (by decide) ?_
          have z := ih (t + 1) (t : Int) (by omega)
          rw [ygL, if_pos (by simp only [n_held] at *; unfold heldInB heldB; simp [c_30, c_49])]
          exact z
set_option maxHeartbeats 4000000 in
set_option maxRecDepth 100000 in
theorem m_youngest {G : mG} {l : Launch} (d : Nat) {h : mH} {x s : Nat} {f4 f6 f8 f9 f10 f11 f12 f13 f14 f16 f18 : Int} {m kp was pool tape pln pap rwd rw : Nat → Int}(hB : isM h x (mFs x f4 f6 f8 f9 f10 f11 f12 f13 f14 f16 f18 s) m kp was pool tape pln pap rwd rw) (hM : ∀ q, InR (m q)) {N C : Nat} (hN : m 1 = (N : Int)) (hcap : N ≤ 90) (hC : m 0 = (C : Int)) (hC2 : C ≤ 60) (hP : parOk m C) (hO : ownOk m N C) {a : Int} (ha : InR a) : RUNM G l (d + 3) mX11_youngest [.ref x, .int (J a)] h (fun v h' => v = some (.int (J (youngV m N C a))) ∧ h' = h) := by
  have hB0 := hB
  dsimp only [mFs] at hB
  refine RUNM.of (by decide +kernel) (Nat.le_of_ble_eq_true rfl) ?_
  have r0 := hM 0
  refine r_aload_n (pc := 0) dX11_youngest_0 rfl (by first | rfl | exact isRefV_rf _) ?_
  refine r_iload_n (pc := 1) dX11_youngest_1 rfl ?_
  refine r_callV1 (pc := 2) dX11_youngest_2 qX11_isScope kX11_50 vX11_isScope (by exact isM.gx (by assumption)) rfl rfl (Nat.le_of_ble_eq_true rfl) (m_isScope (d + 1) hB ha ⟨by omega, by omega⟩) (fun v_2 h_2 q_2 => ?_)
  obtain ⟨rfl, rfl⟩ := q_2
  refine rj_if_ne (pc := 5) (tgt := 10) dX11_youngest_5 (by decide) (by first | assumption | exact b01_r | exact bz_r | omega | (constructor <;> omega) | exact hM _ | exact hPo _ | exact hTa _ | exact hRo _) (fun c_5 => ?_) (fun c_5 => ?_)
  · try simp only [b01_0, bz_0, Classical.not_not] at c_5
    refine rj_bipush (pc := 10) dX11_youngest_10 (by decide +kernel) ?_
    refine r_istore_n (pc := 12) dX11_youngest_12 (Nat.le_of_ble_eq_true rfl) ?_
    dsimp only [lsSt, List.set, mLs, mEnt]
    refine rj_iconst (pc := 13) dX11_youngest_13 ?_
    refine r_istore_n (pc := 14) dX11_youngest_14 (Nat.le_of_ble_eq_true rfl) ?_
    dsimp only [lsSt, List.set, mLs, mEnt]
    have z := L_youngest (G := G) (l := l) d hB0 hM hN hcap hC hC2 hP hO ha N 0 (-5) (by omega)
    unfold youngV
    rw [if_pos c_5]
    exact z
  · try simp only [b01_0, bz_0, Classical.not_not] at c_5
    refine rj_iconst (pc := 8) dX11_youngest_8 ?_
    refine r_ireturn (pc := 9) .int dX11_youngest_9 rfl (by first | rfl | assumption) ?_
    exact ⟨by unfold youngV; rw [if_neg c_5], rfl⟩
end mg_40
section mg_41
/-! ===== contracts of the reference: faultAt, fault, entry, move ===== -/
def faJ (m : Nat → Int) (t : Int) : Nat → Nat → Int → Nat
  | 0, j, _ => j
  | n + 1, j, i => if m (2328 + 3 * j) = t ∧ i ≤ 0 then j else faJ m t n (j + 1) (i - if m (2328 + 3 * j) = t then 1 else 0)
def faultAtV (m : Nat → Int) (N : Nat) (t k w : Int) : Int := if 0 ≤ t then (if m (1618 + 72 * t).toNat = 0 then m (2329 + 3 * (faJ m t N 0 k : Int) + w).toNat else if k = 0 then (if w = 0 then m (1618 + 72 * t).toNat else -1) else m (2329 + 3 * (faJ m t N 0 (k - 1) : Int) + w).toNat) else m (2688 + 2 * k + w).toNat
set_option maxHeartbeats 4000000 in
set_option maxRecDepth 100000 in
theorem L_faultAt {G : mG} {l : Launch} (d : Nat) {h : mH} {x s : Nat} {f4 f6 f8 f9 f10 f11 f12 f13 f14 f16 f18 : Int} {m kp was pool tape pln pap rwd rw : Nat → Int}(hB : isM h x (mFs x f4 f6 f8 f9 f10 f11 f12 f13 f14 f16 f18 s) m kp was pool tape pln pap rwd rw) (hM : ∀ q, InR (m q)) {N : Nat} (hN : m 4 = (N : Int)) (hcap : N ≤ 120) {t k w : Int} (ht : InR t) (hw : 0 ≤ w ∧ w ≤ 1) : ∀ (n j : Nat) (i : Int), j + n = N → 0 ≤ i → i ≤ 1000 → i < cnt (faultB m t) N - cnt (faultB m t) j → RUN G l (d + 1) mX11_faultAt 69 [some (.ref x), some (.int (J t)), some (.int (J k)), some (.int (J w)), some (.int (J i)), some (.int (J (j : Int)))] [] h (fun v h' => v = some (.int (J (m (2329 + 3 * (faJ m t n j i : Int) + w).toNat))) ∧ h' = h) := by
  dsimp only [mFs] at hB
  intro n
  induction n with
  | zero =>
    intro j i hj h0 h1 h2
    exfalso
    rw [show j = N by omega] at h2
    omega
  | succ n ih =>
    intro j i hj h0 h1 h2
    refine r_aload_n (pc := 69) dX11_faultAt_69 rfl (by first | rfl | exact isRefV_rf _) ?_
    refine rm_getf (pc := 70) dX11_faultAt_70 fX11_11 (by assumption) rfl ?_
    refine rj_sipush (pc := 73) dX11_faultAt_73 (by decide +kernel) ?_
    refine rj_iconst (pc := 76) dX11_faultAt_76 ?_
    refine r_iload (pc := 77) dX11_faultAt_77 rfl ?_
    refine rj_imul (pc := 79) dX11_faultAt_79 ?_
    refine rj_iadd (pc := 80) dX11_faultAt_80 ?_
    refine rj_iald (pc := 81) (j := 2328 + 3 * j) dX11_faultAt_81 (by first | exact isM.g0 (by assumption) | exact isM.g3 (by assumption) | exact isM.g4 (by assumption) | exact isM.g8 (by assumption) | exact isM.g7 (by assumption) | exact isM.g6 (by assumption) | exact isM.g5 (by assumption) | exact isM.g1 (by assumption) | exact isM.g2 (by assumption)) (by first | assumption | exact b01_r | exact bz_r | omega | (constructor <;> omega) | exact hM _ | exact hPo _ | exact hTa _ | exact hRo _) (by first | assumption | exact b01_r | exact bz_r | omega | (constructor <;> omega) | exact hM _ | exact hPo _ | exact hTa _ | exact hRo _) (by first | assumption | exact b01_r | exact bz_r | omega | (constructor <;> omega) | exact hM _ | exact hPo _ | exact hTa _ | exact hRo _) (by omega) ?_
    refine r_iload_n (pc := 82) dX11_faultAt_82 rfl ?_
    refine rj_icmp_ne (pc := 83) (tgt := 91) dX11_faultAt_83 (by decide) (by first | assumption | exact b01_r | exact bz_r | omega | (constructor <;> omega) | exact hM _ | exact hPo _ | exact hTa _ | exact hRo _) (by first | assumption | exact b01_r | exact bz_r | omega | (constructor <;> omega) | exact hM _ | exact hPo _ | exact hTa _ | exact hRo _) (fun c_83 => ?_) (fun c_83 => ?_)
    · refine r_iload (pc := 91) dX11_faultAt_91 rfl ?_
      refine r_aload_n (pc := 93) dX11_faultAt_93 rfl (by first | rfl | exact isRefV_rf _) ?_
      refine rm_getf (pc := 94) dX11_faultAt_94 fX11_11 (by assumption) rfl ?_
      refine rj_sipush (pc := 97) dX11_faultAt_97 (by decide +kernel) ?_
      refine rj_iconst (pc := 100) dX11_faultAt_100 ?_
      refine r_iload (pc := 101) dX11_faultAt_101 rfl ?_
      refine rj_imul (pc := 103) dX11_faultAt_103 ?_
      refine rj_iadd (pc := 104) dX11_faultAt_104 ?_
      refine rj_iald (pc := 105) (j := 2328 + 3 * j) dX11_faultAt_105 (by first | exact isM.g0 (by assumption) | exact isM.g3 (by assumption) | exact isM.g4 (by assumption) | exact isM.g8 (by assumption) | exact isM.g7 (by assumption) | exact isM.g6 (by assumption) | exact isM.g5 (by assumption) | exact isM.g1 (by assumption) | exact isM.g2 (by assumption)) (by first | assumption | exact b01_r | exact bz_r | omega | (constructor <;> omega) | exact hM _ | exact hPo _ | exact hTa _ | exact hRo _) (by first | assumption | exact b01_r | exact bz_r | omega | (constructor <;> omega) | exact hM _ | exact hPo _ | exact hTa _ | exact hRo _) (by first | assumption | exact b01_r | exact bz_r | omega | (constructor <;> omega) | exact hM _ | exact hPo _ | exact hTa _ | exact hRo _) (by omega) ?_
      refine r_iload_n (pc := 106) dX11_faultAt_106 rfl ?_
      refine rj_icmp_ne (pc := 107) (tgt := 114) dX11_faultAt_107 (by decide) (by first | assumption | exact b01_r | exact bz_r | omega | (constructor <;> omega) | exact hM _ | exact hPo _ | exact hTa _ | exact hRo _) (by first | assumption | exact b01_r | exact bz_r | omega | (constructor <;> omega) | exact hM _ | exact hPo _ | exact hTa _ | exact hRo _) (fun c_107 => ?_) (fun c_107 => ?_)
      · refine rj_iconst (pc := 114) dX11_faultAt_114 ?_
        refine rj_isub (pc := 115) dX11_faultAt_115 ?_
        refine r_istore (pc := 116) dX11_faultAt_116 (Nat.le_of_ble_eq_true rfl) ?_
        dsimp only [lsSt, List.set, mLs, mEnt]
        refine rj_iinc (pc := 118) dX11_faultAt_118 (Nat.le_of_ble_eq_true rfl) rfl ?_
        dsimp only [lsSt, List.set, mLs, mEnt]
        refine r_goto (pc := 121) (tgt := 69) dX11_faultAt_121 (by decide) ?_
        have e := cnt_f (p := faultB m t) (n := j) (by simp only [faultB, decide_eq_false_iff_not]; exact c_83)
        have z := ih (j + 1) (i - 0) (by omega) (by omega) (by omega) (by omega)
        rw [faJ, if_neg (fun g => c_83 g.1), if_neg c_83]
        exact z
      · refine rj_iconst (pc := 110) dX11_faultAt_110 ?_
        refine r_goto (pc := 111) (tgt := 115) dX11_faultAt_111 (by decide) ?_
        refine rj_isub (pc := 115) dX11_faultAt_115 ?_
        refine r_istore (pc := 116) dX11_faultAt_116 (Nat.le_of_ble_eq_true rfl) ?_
        dsimp only [lsSt, List.set, mLs, mEnt]
        refine rj_iinc (pc := 118) dX11_faultAt_118 (Nat.le_of_ble_eq_true rfl) rfl ?_
        dsimp only [lsSt, List.set, mLs, mEnt]
        refine r_goto (pc := 121) (tgt := 69) dX11_faultAt_121 (by decide) ?_
        exfalso; omega
    · refine r_iload (pc := 86) dX11_faultAt_86 rfl ?_
      refine rj_if_le (pc := 88) (tgt := 124) dX11_faultAt_88 (by decide) (by first | assumption | exact b01_r | exact bz_r | omega | (constructor <;> omega) | exact hM _ | exact hPo _ | exact hTa _ | exact hRo _) (fun c_88 => ?_) (fun c_88 => ?_)
      · refine r_aload_n (pc := 124) dX11_faultAt_124 rfl (by first | rfl | exact isRefV_rf _) ?_
        refine rm_getf (pc := 125) dX11_faultAt_125 fX11_11 (by assumption) rfl ?_
        refine rj_sipush (pc := 128) dX11_faultAt_128 (by decide +kernel) ?_
        refine rj_iconst (pc := 131) dX11_faultAt_131 ?_
        refine r_iload (pc := 132) dX11_faultAt_132 rfl ?_
        refine rj_imul (pc := 134) dX11_faultAt_134 ?_
        refine rj_iadd (pc := 135) dX11_faultAt_135 ?_
        refine rj_iconst (pc := 136) dX11_faultAt_136 ?_
        refine rj_iadd (pc := 137) dX11_faultAt_137 ?_
        refine r_iload_n (pc := 138) dX11_faultAt_138 rfl ?_
        refine rj_iadd (pc := 139) dX11_faultAt_139 ?_
        refine rj_iald (pc := 140) (j := (2329 + 3 * (j : Int) + w).toNat) dX11_faultAt_140 (by first | exact isM.g0 (by assumption) | exact isM.g3 (by assumption) | exact isM.g4 (by assumption) | exact isM.g8 (by assumption) | exact isM.g7 (by assumption) | exact isM.g6 (by assumption) | exact isM.g5 (by assumption) | exact isM.g1 (by assumption) | exact isM.g2 (by assumption)) (by first | assumption | exact b01_r | exact bz_r | omega | (constructor <;> omega) | exact hM _ | exact hPo _ | exact hTa _ | exact hRo _) (by first | assumption | exact b01_r | exact bz_r | omega | (constructor <;> omega) | exact hM _ | exact hPo _ | exact hTa _ | exact hRo _) (by first | assumption | exact b01_r | exact bz_r | omega | (constructor <;> omega) | exact hM _ | exact hPo _ | exact hTa _ | exact hRo _) (by omega) ?_
        refine r_ireturn (pc := 141) .int dX11_faultAt_141 rfl (by first | rfl | assumption) ?_
        have e1 : faJ m t (n + 1) j i = j := by rw [faJ, if_pos ⟨c_83, c_88⟩]
        rw [e1]
        exact ⟨rfl, rfl⟩
      · refine r_iload (pc := 91) dX11_faultAt_91 rfl ?_
        refine r_aload_n (pc := 93) dX11_faultAt_93 rfl (by first | rfl | exact isRefV_rf _) ?_
        refine rm_getf (pc := 94) dX11_faultAt_94 fX11_11 (by assumption) rfl ?_
        refine rj_sipush (pc := 97) dX11_faultAt_97 (by decide +kernel) ?_
        refine rj_iconst (pc := 100) dX11_faultAt_100 ?_
        refine r_iload (pc := 101) dX11_faultAt_101 rfl ?_
        refine rj_imul (pc := 103) dX11_faultAt_103 ?_
        refine rj_iadd (pc := 104) dX11_faultAt_104 ?_
        refine rj_iald (pc := 105) (j := 2328 + 3 * j) dX11_faultAt_105 (by first | exact isM.g0 (by assumption) | exact isM.g3 (by assumption) | exact isM.g4 (by assumption) | exact isM.g8 (by assumption) | exact isM.g7 (by assumption) | exact isM.g6 (by assumption) | exact isM.g5 (by assumption) | exact isM.g1 (by assumption) | exact isM.g2 (by assumption)) (by first | assumption | exact b01_r | exact bz_r | omega | (constructor <;> omega) | exact hM _ | exact hPo _ | exact hTa _ | exact hRo _) (by first | assumption | exact b01_r | exact bz_r | omega | (constructor <;> omega) | exact hM _ | exact hPo _ | exact hTa _ | exact hRo _) (by first | assumption | exact b01_r | exact bz_r | omega | (constructor <;> omega) | exact hM _ | exact hPo _ | exact hTa _ | exact hRo _) (by omega) ?_
        refine r_iload_n (pc := 106) dX11_faultAt_106 rfl ?_
        refine rj_icmp_ne (pc := 107) (tgt := 114) dX11_faultAt_107 (by decide) (by first | assumption | exact b01_r | exact bz_r | omega | (constructor <;> omega) | exact hM _ | exact hPo _ | exact hTa _ | exact hRo _) (by first | assumption | exact b01_r | exact bz_r | omega | (constructor <;> omega) | exact hM _ | exact hPo _ | exact hTa _ | exact hRo _) (fun c_107 => ?_) (fun c_107 => ?_)
        · refine rj_iconst (pc := 114) dX11_faultAt_114 ?_
          refine rj_isub (pc := 115) dX11_faultAt_115 ?_
          refine r_istore (pc := 116) dX11_faultAt_116 (Nat.le_of_ble_eq_true rfl) ?_
          dsimp only [lsSt, List.set, mLs, mEnt]
          refine rj_iinc (pc := 118) dX11_faultAt_118 (Nat.le_of_ble_eq_true rfl) rfl ?_
          dsimp only [lsSt, List.set, mLs, mEnt]
          refine r_goto (pc := 121) (tgt := 69) dX11_faultAt_121 (by decide) ?_
          exfalso; omega
        · refine rj_iconst (pc := 110) dX11_faultAt_110 ?_
          refine r_goto (pc := 111) (tgt := 115) dX11_faultAt_111 (by decide) ?_
          refine rj_isub (pc := 115) dX11_faultAt_115 ?_
          refine r_istore (pc := 116) dX11_faultAt_116 (Nat.le_of_ble_eq_true rfl) ?_
          dsimp only [lsSt, List.set, mLs, mEnt]
          refine rj_iinc (pc := 118) dX11_faultAt_118 (Nat.le_of_ble_eq_true rfl) rfl ?_
          dsimp only [lsSt, List.set, mLs, mEnt]
          refine r_goto (pc := 121) (tgt := 69) dX11_faultAt_121 (by decide) ?_
          have e := cnt_t (p := faultB m t) (n := j) (by simp only [faultB, decide_eq_true_eq]; exact c_83)
          have z := ih (j + 1) (i - 1) (by omega) (by omega) (by omega) (by omega)
          rw [faJ, if_neg (fun g => c_88 g.2), if_pos c_83]
          exact z
set_option maxHeartbeats 4000000 in
set_option maxRecDepth 100000 in
theorem m_faultAt {G : mG} {l : Launch} (d : Nat) {h : mH} {x s : Nat} {f4 f6 f8 f9 f10 f11 f12 f13 f14 f16 f18 : Int} {m kp was pool tape pln pap rwd rw : Nat → Int}(hB : isM h x (mFs x f4 f6 f8 f9 f10 f11 f12 f13 f14 f16 f18 s) m kp was pool tape pln pap rwd rw) (hM : ∀ q, InR (m q)) {N : Nat} (hN : m 4 = (N : Int)) (hcap : N ≤ 120) {t k w : Int} (ht : InR t) (hw : 0 ≤ w ∧ w ≤ 1) (ht2 : t ≤ 9) (h5 : m 5 ≤ 120) (hk0 : 0 ≤ k) (hk : k < manyV m N t) : RUNM G l (d + 1) mX11_faultAt [.ref x, .int (J t), .int (J k), .int (J w)] h (fun v h' => v = some (.int (J (faultAtV m N t k w))) ∧ h' = h) := by
  have hB0 := hB
  dsimp only [mFs] at hB
  refine RUNM.of (by decide +kernel) (Nat.le_of_ble_eq_true rfl) ?_
  have r4 := cnt_r (faultB m t) N
  have kk : k ≤ 121 ∧ (t < 0 → k < m 5) := by
    unfold manyV at hk
    split at hk
    · split at hk <;> (constructor <;> omega)
    · constructor <;> omega
  refine r_iload_n (pc := 0) dX11_faultAt_0 rfl ?_
  refine rj_if_ge (pc := 1) (tgt := 19) dX11_faultAt_1 (by decide) (by first | assumption | exact b01_r | exact bz_r | omega | (constructor <;> omega) | exact hM _ | exact hPo _ | exact hTa _ | exact hRo _) (fun c_1 => ?_) (fun c_1 => ?_)
  · refine r_iload_n (pc := 19) dX11_faultAt_19 rfl ?_
    refine r_istore (pc := 20) dX11_faultAt_20 (Nat.le_of_ble_eq_true rfl) ?_
    dsimp only [lsSt, List.set, mLs, mEnt]
    refine r_aload_n (pc := 22) dX11_faultAt_22 rfl (by first | rfl | exact isRefV_rf _) ?_
    refine rm_getf (pc := 23) dX11_faultAt_23 fX11_11 (by assumption) rfl ?_
    refine r_iload_n (pc := 26) dX11_faultAt_26 rfl ?_
    refine rj_bipush (pc := 27) dX11_faultAt_27 (by decide +kernel) ?_
    refine rj_iconst (pc := 29) dX11_faultAt_29 ?_
    refine r_callS3 (pc := 30) dX11_faultAt_30 qX11_ofTask kX11_58 sX11_ofTask (Nat.le_of_ble_eq_true rfl) (m_ofTask d) (fun v_30 h_30 q_30 => ?_)
    obtain ⟨rfl, rfl⟩ := q_30
    refine rj_iald (pc := 33) (j := (1618 + 72 * t).toNat) dX11_faultAt_33 (by first | exact isM.g0 (by assumption) | exact isM.g3 (by assumption) | exact isM.g4 (by assumption) | exact isM.g8 (by assumption) | exact isM.g7 (by assumption) | exact isM.g6 (by assumption) | exact isM.g5 (by assumption) | exact isM.g1 (by assumption) | exact isM.g2 (by assumption)) (by first | assumption | exact b01_r | exact bz_r | omega | (constructor <;> omega) | exact hM _ | exact hPo _ | exact hTa _ | exact hRo _) (by first | assumption | exact b01_r | exact bz_r | omega | (constructor <;> omega) | exact hM _ | exact hPo _ | exact hTa _ | exact hRo _) (by first | assumption | exact b01_r | exact bz_r | omega | (constructor <;> omega) | exact hM _ | exact hPo _ | exact hTa _ | exact hRo _) (by omega) ?_
    refine rj_if_eq (pc := 34) (tgt := 66) dX11_faultAt_34 (by decide) (by first | assumption | exact b01_r | exact bz_r | omega | (constructor <;> omega) | exact hM _ | exact hPo _ | exact hTa _ | exact hRo _) (fun c_34 => ?_) (fun c_34 => ?_)
    · try simp only [b01_0, bz_0, Classical.not_not] at c_34
      refine rj_iconst (pc := 66) dX11_faultAt_66 ?_
      refine r_istore (pc := 67) dX11_faultAt_67 (Nat.le_of_ble_eq_true rfl) ?_
      dsimp only [lsSt, List.set, mLs, mEnt]
      have em : manyV m N t = cnt (faultB m t) N + 0 := by unfold manyV; rw [if_pos (by omega), if_pos c_34]
      have z := L_faultAt (G := G) (l := l) d (k := k) hB0 hM hN hcap ht hw N 0 k (by omega) (by omega) (by omega) (by show k < cnt (faultB m t) N - 0; omega)
      rw [show faultAtV m N t k w = m (2329 + 3 * (faJ m t N 0 k : Int) + w).toNat by unfold faultAtV; rw [if_pos (by omega), if_pos c_34]]
      exact z
    · try simp only [b01_0, bz_0, Classical.not_not] at c_34
      refine r_iload (pc := 37) dX11_faultAt_37 rfl ?_
      refine rj_if_ne (pc := 39) (tgt := 63) dX11_faultAt_39 (by decide) (by first | assumption | exact b01_r | exact bz_r | omega | (constructor <;> omega) | exact hM _ | exact hPo _ | exact hTa _ | exact hRo _) (fun c_39 => ?_) (fun c_39 => ?_)
      · try simp only [b01_0, bz_0, Classical.not_not] at c_39
        refine rj_iinc (pc := 63) dX11_faultAt_63 (Nat.le_of_ble_eq_true rfl) rfl ?_
        dsimp only [lsSt, List.set, mLs, mEnt]
        refine rj_iconst (pc := 66) dX11_faultAt_66 ?_
        refine r_istore (pc := 67) dX11_faultAt_67 (Nat.le_of_ble_eq_true rfl) ?_
        dsimp only [lsSt, List.set, mLs, mEnt]
        have em : manyV m N t = cnt (faultB m t) N + 1 := by unfold manyV; rw [if_pos (by omega), if_neg c_34]
        have z := L_faultAt (G := G) (l := l) d (k := k) hB0 hM hN hcap ht hw N 0 (k - 1) (by omega) (by omega) (by omega) (by show k - 1 < cnt (faultB m t) N - 0; omega)
        rw [show faultAtV m N t k w = m (2329 + 3 * (faJ m t N 0 (k - 1) : Int) + w).toNat by unfold faultAtV; rw [if_pos (by omega), if_neg c_34, if_neg c_39]]
        exact z
      · try simp only [b01_0, bz_0, Classical.not_not] at c_39
        refine r_iload_n (pc := 42) dX11_faultAt_42 rfl ?_
        refine rj_if_ne (pc := 43) (tgt := 61) dX11_faultAt_43 (by decide) (by first | assumption | exact b01_r | exact bz_r | omega | (constructor <;> omega) | exact hM _ | exact hPo _ | exact hTa _ | exact hRo _) (fun c_43 => ?_) (fun c_43 => ?_)
        · try simp only [b01_0, bz_0, Classical.not_not] at c_43
          refine rj_iconst (pc := 61) dX11_faultAt_61 ?_
          refine r_ireturn (pc := 62) .int dX11_faultAt_62 rfl (by first | rfl | assumption) ?_
          first
          | exact ⟨by unfold faultAtV; rw [if_neg (by omega)], rfl⟩
          | exact ⟨by unfold faultAtV; rw [if_pos (by omega), if_neg c_34, if_pos c_39, if_pos c_43], rfl⟩
          | exact ⟨by unfold faultAtV; rw [if_pos (by omega), if_neg c_34, if_pos c_39, if_neg c_43], rfl⟩
        · try simp only [b01_0, bz_0, Classical.not_not] at c_43
          refine r_aload_n (pc := 46) dX11_faultAt_46 rfl (by first | rfl | exact isRefV_rf _) ?_
          refine rm_getf (pc := 47) dX11_faultAt_47 fX11_11 (by assumption) rfl ?_
          refine r_iload_n (pc := 50) dX11_faultAt_50 rfl ?_
          refine rj_bipush (pc := 51) dX11_faultAt_51 (by decide +kernel) ?_
          refine rj_iconst (pc := 53) dX11_faultAt_53 ?_
          refine r_callS3 (pc := 54) dX11_faultAt_54 qX11_ofTask kX11_58 sX11_ofTask (Nat.le_of_ble_eq_true rfl) (m_ofTask d) (fun v_54 h_54 q_54 => ?_)
          obtain ⟨rfl, rfl⟩ := q_54
          refine rj_iald (pc := 57) (j := (1618 + 72 * t).toNat) dX11_faultAt_57 (by first | exact isM.g0 (by assumption) | exact isM.g3 (by assumption) | exact isM.g4 (by assumption) | exact isM.g8 (by assumption) | exact isM.g7 (by assumption) | exact isM.g6 (by assumption) | exact isM.g5 (by assumption) | exact isM.g1 (by assumption) | exact isM.g2 (by assumption)) (by first | assumption | exact b01_r | exact bz_r | omega | (constructor <;> omega) | exact hM _ | exact hPo _ | exact hTa _ | exact hRo _) (by first | assumption | exact b01_r | exact bz_r | omega | (constructor <;> omega) | exact hM _ | exact hPo _ | exact hTa _ | exact hRo _) (by first | assumption | exact b01_r | exact bz_r | omega | (constructor <;> omega) | exact hM _ | exact hPo _ | exact hTa _ | exact hRo _) (by omega) ?_
          refine r_goto (pc := 58) (tgt := 62) dX11_faultAt_58 (by decide) ?_
          refine r_ireturn (pc := 62) .int dX11_faultAt_62 rfl (by first | rfl | assumption) ?_
          first
          | exact ⟨by unfold faultAtV; rw [if_neg (by omega)], rfl⟩
          | exact ⟨by unfold faultAtV; rw [if_pos (by omega), if_neg c_34, if_pos c_39, if_pos c_43], rfl⟩
          | exact ⟨by unfold faultAtV; rw [if_pos (by omega), if_neg c_34, if_pos c_39, if_neg c_43], rfl⟩
  · refine r_aload_n (pc := 4) dX11_faultAt_4 rfl (by first | rfl | exact isRefV_rf _) ?_
    refine rm_getf (pc := 5) dX11_faultAt_5 fX11_11 (by assumption) rfl ?_
    refine rj_sipush (pc := 8) dX11_faultAt_8 (by decide +kernel) ?_
    refine rj_iconst (pc := 11) dX11_faultAt_11 ?_
    refine r_iload_n (pc := 12) dX11_faultAt_12 rfl ?_
    refine rj_imul (pc := 13) dX11_faultAt_13 ?_
    refine rj_iadd (pc := 14) dX11_faultAt_14 ?_
    refine r_iload_n (pc := 15) dX11_faultAt_15 rfl ?_
    refine rj_iadd (pc := 16) dX11_faultAt_16 ?_
    refine rj_iald (pc := 17) (j := (2688 + 2 * k + w).toNat) dX11_faultAt_17 (by first | exact isM.g0 (by assumption) | exact isM.g3 (by assumption) | exact isM.g4 (by assumption) | exact isM.g8 (by assumption) | exact isM.g7 (by assumption) | exact isM.g6 (by assumption) | exact isM.g5 (by assumption) | exact isM.g1 (by assumption) | exact isM.g2 (by assumption)) (by first | assumption | exact b01_r | exact bz_r | omega | (constructor <;> omega) | exact hM _ | exact hPo _ | exact hTa _ | exact hRo _) (by first | assumption | exact b01_r | exact bz_r | omega | (constructor <;> omega) | exact hM _ | exact hPo _ | exact hTa _ | exact hRo _) (by first | assumption | exact b01_r | exact bz_r | omega | (constructor <;> omega) | exact hM _ | exact hPo _ | exact hTa _ | exact hRo _) (by omega) ?_
    refine r_ireturn (pc := 18) .int dX11_faultAt_18 rfl (by first | rfl | assumption) ?_
    first
    | exact ⟨by unfold faultAtV; rw [if_neg (by omega)], rfl⟩
    | exact ⟨by unfold faultAtV; rw [if_pos (by omega), if_neg c_34, if_pos c_39, if_pos c_43], rfl⟩
    | exact ⟨by unfold faultAtV; rw [if_pos (by omega), if_neg c_34, if_pos c_39, if_neg c_43], rfl⟩
def moveV (m : Nat → Int) (N C : Nat) (t s : Int) : Int := if (0 ≤ t ∧ t ≤ m 1 - 1) ∧ (0 ≤ s ∧ s ≤ m 0 - 1) then (if m (258 + 14 * t).toNat = 0 ∧ openP m s then entsN (movesM m t.toNat s) s N C else -3) else -1
def moveDo (m : Nat → Int) (t s : Int) : Prop := (0 ≤ t ∧ t ≤ m 1 - 1) ∧ m (258 + 14 * t).toNat = 0 ∧ openP m s
set_option maxHeartbeats 4000000 in
set_option maxRecDepth 100000 in
theorem m_move {G : mG} {l : Launch} (d : Nat) {h : mH} {x s : Nat} {f4 f6 f8 f9 f10 f11 f12 f13 f14 f16 f18 : Int} {m kp was pool tape pln pap rwd rw : Nat → Int}(hB : isM h x (mFs x f4 f6 f8 f9 f10 f11 f12 f13 f14 f16 f18 s) m kp was pool tape pln pap rwd rw) (hM : ∀ q, InR (m q)) {N C : Nat} (hN : m 1 = (N : Int)) (hcap : N ≤ 90) (hC : m 0 = (C : Int)) (hC1 : 1 ≤ C) (hC2 : C ≤ 60) {t s2 : Int} (h6 : InR (m 6 + 1)) (ht : InR t) (hs : InR s2) : RUNM G l (d + 3) mX11_move [.ref x, .int (J t), .int (J s2)] h (fun v h' => v = some (.int (J (moveV m N C t s2))) ∧ ((¬ moveDo m t s2 ∧ h' = h) ∨ (moveDo m t s2 ∧ isM h' x (mFs x f4 f6 f8 f9 f10 f11 f12 f13 f14 f16 f18 s) (movesM m t.toNat s2) kp was pool tape pln pap rwd rw ∧ Same (mBlk x) h h'))) := by
  have hB0 := hB
  dsimp only [mFs] at hB
  refine RUNM.of (by decide +kernel) (Nat.le_of_ble_eq_true rfl) ?_
  refine r_aload_n (pc := 0) dX11_move_0 rfl (by first | rfl | exact isRefV_rf _) ?_
  refine r_iload_n (pc := 1) dX11_move_1 rfl ?_
  refine r_callV1 (pc := 2) dX11_move_2 qX11_isThing kX11_238 vX11_isThing (by exact isM.gx (by assumption)) rfl rfl (Nat.le_of_ble_eq_true rfl) (m_isThing (d + 1) hB0 ht ⟨by omega, by omega⟩) (fun v_2 h_2 q_2 => ?_)
  obtain ⟨rfl, rfl⟩ := q_2
  refine rj_if_eq (pc := 5) (tgt := 16) dX11_move_5 (by decide) (by first | assumption | exact b01_r | exact bz_r | omega | (constructor <;> omega) | exact hM _ | exact hPo _ | exact hTa _ | exact hRo _) (fun c_5 => ?_) (fun c_5 => ?_)
  · try simp only [b01_0, bz_0, Classical.not_not] at c_5
    refine rj_iconst (pc := 16) dX11_move_16 ?_
    refine r_ireturn (pc := 17) .int dX11_move_17 rfl (by first | rfl | assumption) ?_
    first
    | exact ⟨by unfold moveV; rw [if_neg (fun g => c_5 g.1)], Or.inl ⟨fun g => c_5 g.1, rfl⟩⟩
    | exact ⟨by unfold moveV; rw [if_neg (fun g => c_13 g.2)], Or.inl ⟨fun g => c_13 ⟨g.2.2.1, g.2.2.2.1⟩, rfl⟩⟩
    | exact ⟨by unfold moveV; rw [if_pos ⟨c_5, c_13⟩, if_neg (fun g => c_23 g.1)], Or.inl ⟨fun g => c_23 g.2.1, rfl⟩⟩
    | exact ⟨by unfold moveV; rw [if_pos ⟨c_5, c_13⟩, if_neg (fun g => c_31 g.2)], Or.inl ⟨fun g => c_31 g.2.2, rfl⟩⟩
    | exact ⟨by unfold moveV; rw [if_pos ⟨c_5, c_13⟩, if_pos ⟨c_23, c_31⟩], Or.inr ⟨⟨c_5, c_23, c_31⟩, hB_40, hS_40⟩⟩
  · try simp only [b01_0, bz_0, Classical.not_not] at c_5
    refine r_aload_n (pc := 8) dX11_move_8 rfl (by first | rfl | exact isRefV_rf _) ?_
    refine r_iload_n (pc := 9) dX11_move_9 rfl ?_
    refine r_callV1 (pc := 10) dX11_move_10 qX11_isScope kX11_50 vX11_isScope (by exact isM.gx (by assumption)) rfl rfl (Nat.le_of_ble_eq_true rfl) (m_isScope (d + 1) hB0 hs ⟨by omega, by omega⟩) (fun v_10 h_10 q_10 => ?_)
    obtain ⟨rfl, rfl⟩ := q_10
    refine rj_if_ne (pc := 13) (tgt := 18) dX11_move_13 (by decide) (by first | assumption | exact b01_r | exact bz_r | omega | (constructor <;> omega) | exact hM _ | exact hPo _ | exact hTa _ | exact hRo _) (fun c_13 => ?_) (fun c_13 => ?_)
    · try simp only [b01_0, bz_0, Classical.not_not] at c_13
      refine r_aload_n (pc := 18) dX11_move_18 rfl (by first | rfl | exact isRefV_rf _) ?_
      refine r_iload_n (pc := 19) dX11_move_19 rfl ?_
      refine r_callV1 (pc := 20) dX11_move_20 qX11_isHeld kX11_119 vX11_isHeld (by exact isM.gx (by assumption)) rfl rfl (Nat.le_of_ble_eq_true rfl) (m_isHeld (d + 1) hB0 hM (by omega) (by omega)) (fun v_20 h_20 q_20 => ?_)
      obtain ⟨rfl, rfl⟩ := q_20
      refine rj_if_eq (pc := 23) (tgt := 34) dX11_move_23 (by decide) (by first | assumption | exact b01_r | exact bz_r | omega | (constructor <;> omega) | exact hM _ | exact hPo _ | exact hTa _ | exact hRo _) (fun c_23 => ?_) (fun c_23 => ?_)
      · try simp only [b01_0, bz_0, Classical.not_not] at c_23
        refine rj_bipush (pc := 34) dX11_move_34 (by decide +kernel) ?_
        refine r_ireturn (pc := 36) .int dX11_move_36 rfl (by first | rfl | assumption) ?_
        first
        | exact ⟨by unfold moveV; rw [if_neg (fun g => c_5 g.1)], Or.inl ⟨fun g => c_5 g.1, rfl⟩⟩
        | exact ⟨by unfold moveV; rw [if_neg (fun g => c_13 g.2)], Or.inl ⟨fun g => c_13 ⟨g.2.2.1, g.2.2.2.1⟩, rfl⟩⟩
        | exact ⟨by unfold moveV; rw [if_pos ⟨c_5, c_13⟩, if_neg (fun g => c_23 g.1)], Or.inl ⟨fun g => c_23 g.2.1, rfl⟩⟩
        | exact ⟨by unfold moveV; rw [if_pos ⟨c_5, c_13⟩, if_neg (fun g => c_31 g.2)], Or.inl ⟨fun g => c_31 g.2.2, rfl⟩⟩
        | exact ⟨by unfold moveV; rw [if_pos ⟨c_5, c_13⟩, if_pos ⟨c_23, c_31⟩], Or.inr ⟨⟨c_5, c_23, c_31⟩, hB_40, hS_40⟩⟩
      · try simp only [b01_0, bz_0, Classical.not_not] at c_23
        refine r_aload_n (pc := 26) dX11_move_26 rfl (by first | rfl | exact isRefV_rf _) ?_
        refine r_iload_n (pc := 27) dX11_move_27 rfl ?_
        refine r_callV1 (pc := 28) dX11_move_28 qX11_isOpen kX11_146 vX11_isOpen (by exact isM.gx (by assumption)) rfl rfl (Nat.le_of_ble_eq_true rfl) (m_isOpen d hB0 hM ⟨by omega, by omega⟩ hs) (fun v_28 h_28 q_28 => ?_)
        obtain ⟨rfl, rfl⟩ := q_28
        refine rj_if_ne (pc := 31) (tgt := 37) dX11_move_31 (by decide) (by first | assumption | exact b01_r | exact bz_r | omega | (constructor <;> omega) | exact hM _ | exact hPo _ | exact hTa _ | exact hRo _) (fun c_31 => ?_) (fun c_31 => ?_)
        · try simp only [b01_0, bz_0, Classical.not_not] at c_31
          refine r_aload_n (pc := 37) dX11_move_37 rfl (by first | rfl | exact isRefV_rf _) ?_
          refine r_iload_n (pc := 38) dX11_move_38 rfl ?_
          refine r_iload_n (pc := 39) dX11_move_39 rfl ?_
          refine r_callV2 (pc := 40) dX11_move_40 qX11_moves kX11_177 vX11_moves (by exact isM.gx (by assumption)) rfl rfl (Nat.le_of_ble_eq_true rfl) (by have y := m_moves (G := G) (l := l) (d + 1) (t := t.toNat) (b := s2) hB0 (by omega); rw [show ((t.toNat : Nat) : Int) = t by omega] at y; exact y) (fun v_40 h_40 q_40 => ?_)
          obtain ⟨rfl, hB_40, hS_40⟩ := q_40
          have hM2 : ∀ q, InR (movesM m t.toNat s2 q) := by
            intro q
            unfold movesM updI
            split
            · exact h6
            · split
              · exact h6
              · split
                · exact hs
                · exact hM _
          have hN2 : movesM m t.toNat s2 1 = (N : Int) := by rw [← hN]; unfold movesM updI; rw [if_neg (by omega), if_neg (by omega), if_neg (by omega)]
          have hC3 : movesM m t.toNat s2 0 = (C : Int) := by rw [← hC]; unfold movesM updI; rw [if_neg (by omega), if_neg (by omega), if_neg (by omega)]
          refine r_aload_n (pc := 43) dX11_move_43 rfl (by first | rfl | exact isRefV_rf _) ?_
          refine r_iload_n (pc := 44) dX11_move_44 rfl ?_
          refine r_callV1 (pc := 45) dX11_move_45 qX11_entries kX11_241 vX11_entries (by exact isM.gx (by assumption)) rfl rfl (Nat.le_of_ble_eq_true rfl) (m_entries d hB_40 hM2 hN2 hcap hC3 hC1 hC2 hs) (fun v_45 h_45 q_45 => ?_)
          obtain ⟨rfl, rfl⟩ := q_45
          refine r_ireturn (pc := 48) .int dX11_move_48 rfl (by first | rfl | assumption) ?_
          first
          | exact ⟨by unfold moveV; rw [if_neg (fun g => c_5 g.1)], Or.inl ⟨fun g => c_5 g.1, rfl⟩⟩
          | exact ⟨by unfold moveV; rw [if_neg (fun g => c_13 g.2)], Or.inl ⟨fun g => c_13 ⟨g.2.2.1, g.2.2.2.1⟩, rfl⟩⟩
          | exact ⟨by unfold moveV; rw [if_pos ⟨c_5, c_13⟩, if_neg (fun g => c_23 g.1)], Or.inl ⟨fun g => c_23 g.2.1, rfl⟩⟩
          | exact ⟨by unfold moveV; rw [if_pos ⟨c_5, c_13⟩, if_neg (fun g => c_31 g.2)], Or.inl ⟨fun g => c_31 g.2.2, rfl⟩⟩
          | exact ⟨by unfold moveV; rw [if_pos ⟨c_5, c_13⟩, if_pos ⟨c_23, c_31⟩], Or.inr ⟨⟨c_5, c_23, c_31⟩, hB_40, hS_40⟩⟩
        · try simp only [b01_0, bz_0, Classical.not_not] at c_31
          refine rj_bipush (pc := 34) dX11_move_34 (by decide +kernel) ?_
          refine r_ireturn (pc := 36) .int dX11_move_36 rfl (by first | rfl | assumption) ?_
          first
          | exact ⟨by unfold moveV; rw [if_neg (fun g => c_5 g.1)], Or.inl ⟨fun g => c_5 g.1, rfl⟩⟩
          | exact ⟨by unfold moveV; rw [if_neg (fun g => c_13 g.2)], Or.inl ⟨fun g => c_13 ⟨g.2.2.1, g.2.2.2.1⟩, rfl⟩⟩
          | exact ⟨by unfold moveV; rw [if_pos ⟨c_5, c_13⟩, if_neg (fun g => c_23 g.1)], Or.inl ⟨fun g => c_23 g.2.1, rfl⟩⟩
          | exact ⟨by unfold moveV; rw [if_pos ⟨c_5, c_13⟩, if_neg (fun g => c_31 g.2)], Or.inl ⟨fun g => c_31 g.2.2, rfl⟩⟩
          | exact ⟨by unfold moveV; rw [if_pos ⟨c_5, c_13⟩, if_pos ⟨c_23, c_31⟩], Or.inr ⟨⟨c_5, c_23, c_31⟩, hB_40, hS_40⟩⟩
    · try simp only [b01_0, bz_0, Classical.not_not] at c_13
      refine rj_iconst (pc := 16) dX11_move_16 ?_
      refine r_ireturn (pc := 17) .int dX11_move_17 rfl (by first | rfl | assumption) ?_
      first
      | exact ⟨by unfold moveV; rw [if_neg (fun g => c_5 g.1)], Or.inl ⟨fun g => c_5 g.1, rfl⟩⟩
      | exact ⟨by unfold moveV; rw [if_neg (fun g => c_13 g.2)], Or.inl ⟨fun g => c_13 ⟨g.2.2.1, g.2.2.2.1⟩, rfl⟩⟩
      | exact ⟨by unfold moveV; rw [if_pos ⟨c_5, c_13⟩, if_neg (fun g => c_23 g.1)], Or.inl ⟨fun g => c_23 g.2.1, rfl⟩⟩
      | exact ⟨by unfold moveV; rw [if_pos ⟨c_5, c_13⟩, if_neg (fun g => c_31 g.2)], Or.inl ⟨fun g => c_31 g.2.2, rfl⟩⟩
      | exact ⟨by unfold moveV; rw [if_pos ⟨c_5, c_13⟩, if_pos ⟨c_23, c_31⟩], Or.inr ⟨⟨c_5, c_23, c_31⟩, hB_40, hS_40⟩⟩
end mg_41
section mg_42
/-! ===== contracts of the reference: fault, entry, isFine, row ===== -/
def faultV (m : Nat → Int) (N : Nat) (t k w : Int) : Int := if (t = -1 ∨ (0 ≤ t ∧ t ≤ m 3 - 1)) ∧ (0 ≤ w ∧ w ≤ 1) ∧ (0 ≤ k ∧ k ≤ manyV m N t - 1) then faultAtV m N t k w else -1
theorem manyV_r {m : Nat → Int} {N : Nat} {t : Int} (hcap : N ≤ 120) (h5 : 0 ≤ m 5 ∧ m 5 ≤ 120) : 0 ≤ manyV m N t ∧ manyV m N t ≤ 121 := by
  have r4 := cnt_r (faultB m t) N
  unfold manyV
  split
  · split <;> omega
  · omega
set_option maxHeartbeats 4000000 in
set_option maxRecDepth 100000 in
theorem m_fault {G : mG} {l : Launch} (d : Nat) {h : mH} {x s : Nat} {f4 f6 f8 f9 f10 f11 f12 f13 f14 f16 f18 : Int} {m kp was pool tape pln pap rwd rw : Nat → Int}(hB : isM h x (mFs x f4 f6 f8 f9 f10 f11 f12 f13 f14 f16 f18 s) m kp was pool tape pln pap rwd rw) (hM : ∀ q, InR (m q)) (h3 : 0 ≤ m 3 ∧ m 3 ≤ 10) {N : Nat} (hN : m 4 = (N : Int)) (hcap : N ≤ 120) (h5 : 0 ≤ m 5 ∧ m 5 ≤ 120) {t k w : Int} (ht : InR t) (hk : InR k) (hw : InR w) : RUNM G l (d + 4) mX11_fault [.ref x, .int (J t), .int (J k), .int (J w)] h (fun v h' => v = some (.int (J (faultV m N t k w))) ∧ h' = h) := by
  have hB0 := hB
  dsimp only [mFs] at hB
  refine RUNM.of (by decide +kernel) (Nat.le_of_ble_eq_true rfl) ?_
  have rm := manyV_r (t := t) hcap h5
  refine r_aload_n (pc := 0) dX11_fault_0 rfl (by first | rfl | exact isRefV_rf _) ?_
  refine r_iload_n (pc := 1) dX11_fault_1 rfl ?_
  refine r_callV1 (pc := 2) dX11_fault_2 qX11_hasFaults kX11_229 vX11_hasFaults (by exact isM.gx (by assumption)) rfl rfl (Nat.le_of_ble_eq_true rfl) (m_hasFaults (d + 1) hB0 hM h3 ht) (fun v_2 h_2 q_2 => ?_)
  obtain ⟨rfl, rfl⟩ := q_2
  refine rj_if_eq (pc := 5) (tgt := 42) dX11_fault_5 (by decide) (by first | assumption | exact b01_r | exact bz_r | omega | (constructor <;> omega) | exact hM _ | exact hPo _ | exact hTa _ | exact hRo _) (fun c_5 => ?_) (fun c_5 => ?_)
  · try simp only [b01_0, bz_0, Classical.not_not] at c_5
    refine rj_iconst (pc := 42) dX11_fault_42 ?_
    refine r_ireturn (pc := 43) .int dX11_fault_43 rfl (by first | rfl | assumption) ?_
    first
    | exact ⟨by unfold faultV; rw [if_neg (fun g => c_5 g.1)], rfl⟩
    | exact ⟨by unfold faultV; rw [if_neg (fun g => c_14 g.2.1)], rfl⟩
    | exact ⟨by unfold faultV; rw [if_neg (fun g => c_29 g.2.2)], rfl⟩
    | exact ⟨by unfold faultV; rw [if_pos ⟨c_5, c_14, c_29⟩], rfl⟩
  · try simp only [b01_0, bz_0, Classical.not_not] at c_5
    refine r_iload_n (pc := 8) dX11_fault_8 rfl ?_
    refine rj_iconst (pc := 9) dX11_fault_9 ?_
    refine rj_iconst (pc := 10) dX11_fault_10 ?_
    refine r_callS3 (pc := 11) dX11_fault_11 qX11_isIn kX11_46 sX11_isIn (Nat.le_of_ble_eq_true rfl) (m_isIn (d + 3) hw (by decide) (by decide)) (fun v_11 h_11 q_11 => ?_)
    obtain ⟨rfl, rfl⟩ := q_11
    refine rj_if_eq (pc := 14) (tgt := 42) dX11_fault_14 (by decide) (by first | assumption | exact b01_r | exact bz_r | omega | (constructor <;> omega) | exact hM _ | exact hPo _ | exact hTa _ | exact hRo _) (fun c_14 => ?_) (fun c_14 => ?_)
    · try simp only [b01_0, bz_0, Classical.not_not] at c_14
      refine rj_iconst (pc := 42) dX11_fault_42 ?_
      refine r_ireturn (pc := 43) .int dX11_fault_43 rfl (by first | rfl | assumption) ?_
      first
      | exact ⟨by unfold faultV; rw [if_neg (fun g => c_5 g.1)], rfl⟩
      | exact ⟨by unfold faultV; rw [if_neg (fun g => c_14 g.2.1)], rfl⟩
      | exact ⟨by unfold faultV; rw [if_neg (fun g => c_29 g.2.2)], rfl⟩
      | exact ⟨by unfold faultV; rw [if_pos ⟨c_5, c_14, c_29⟩], rfl⟩
    · try simp only [b01_0, bz_0, Classical.not_not] at c_14
      refine r_iload_n (pc := 17) dX11_fault_17 rfl ?_
      refine rj_iconst (pc := 18) dX11_fault_18 ?_
      refine r_aload_n (pc := 19) dX11_fault_19 rfl (by first | rfl | exact isRefV_rf _) ?_
      refine r_iload_n (pc := 20) dX11_fault_20 rfl ?_
      refine r_callV1 (pc := 21) dX11_fault_21 qX11_manyFaults kX11_232 vX11_manyFaults (by exact isM.gx (by assumption)) rfl rfl (Nat.le_of_ble_eq_true rfl) (m_manyFaults d hB0 hM hN hcap ht (by omega)) (fun v_21 h_21 q_21 => ?_)
      obtain ⟨rfl, rfl⟩ := q_21
      refine rj_iconst (pc := 24) dX11_fault_24 ?_
      refine rj_isub (pc := 25) dX11_fault_25 ?_
      refine r_callS3 (pc := 26) dX11_fault_26 qX11_isIn kX11_46 sX11_isIn (Nat.le_of_ble_eq_true rfl) (m_isIn (d + 3) hk (by decide) ⟨by omega, by omega⟩) (fun v_26 h_26 q_26 => ?_)
      obtain ⟨rfl, rfl⟩ := q_26
      refine rj_if_eq (pc := 29) (tgt := 42) dX11_fault_29 (by decide) (by first | assumption | exact b01_r | exact bz_r | omega | (constructor <;> omega) | exact hM _ | exact hPo _ | exact hTa _ | exact hRo _) (fun c_29 => ?_) (fun c_29 => ?_)
      · try simp only [b01_0, bz_0, Classical.not_not] at c_29
        refine rj_iconst (pc := 42) dX11_fault_42 ?_
        refine r_ireturn (pc := 43) .int dX11_fault_43 rfl (by first | rfl | assumption) ?_
        first
        | exact ⟨by unfold faultV; rw [if_neg (fun g => c_5 g.1)], rfl⟩
        | exact ⟨by unfold faultV; rw [if_neg (fun g => c_14 g.2.1)], rfl⟩
        | exact ⟨by unfold faultV; rw [if_neg (fun g => c_29 g.2.2)], rfl⟩
        | exact ⟨by unfold faultV; rw [if_pos ⟨c_5, c_14, c_29⟩], rfl⟩
      · try simp only [b01_0, bz_0, Classical.not_not] at c_29
        refine r_aload_n (pc := 32) dX11_fault_32 rfl (by first | rfl | exact isRefV_rf _) ?_
        refine r_iload_n (pc := 33) dX11_fault_33 rfl ?_
        refine r_iload_n (pc := 34) dX11_fault_34 rfl ?_
        refine r_iload_n (pc := 35) dX11_fault_35 rfl ?_
        refine r_callV3 (pc := 36) dX11_fault_36 qX11_faultAt kX11_235 vX11_faultAt (by exact isM.gx (by assumption)) rfl rfl (Nat.le_of_ble_eq_true rfl) (m_faultAt (d + 2) hB0 hM hN hcap ht c_14 (by omega) (by omega) (by omega) (by omega)) (fun v_36 h_36 q_36 => ?_)
        obtain ⟨rfl, rfl⟩ := q_36
        refine r_goto (pc := 39) (tgt := 43) dX11_fault_39 (by decide) ?_
        refine r_ireturn (pc := 43) .int dX11_fault_43 rfl (by first | rfl | assumption) ?_
        first
        | exact ⟨by unfold faultV; rw [if_neg (fun g => c_5 g.1)], rfl⟩
        | exact ⟨by unfold faultV; rw [if_neg (fun g => c_14 g.2.1)], rfl⟩
        | exact ⟨by unfold faultV; rw [if_neg (fun g => c_29 g.2.2)], rfl⟩
        | exact ⟨by unfold faultV; rw [if_pos ⟨c_5, c_14, c_29⟩], rfl⟩
def stampI (m : Nat → Int) (e : Int) : Int := if e < 100 then m (260 + 14 * e).toNat else m (20 + 4 * (e - 100)).toNat
theorem stampI_r {m : Nat → Int} (hM : ∀ q, InR (m q)) (e : Int) : InR (stampI m e) := by unfold stampI; split <;> exact hM _
theorem eaL_r {m : Nat → Int} {N C : Nat} {a st : Int} : ∀ (n e : Nat) (f : Int), -5 ≤ f → f < e → -5 ≤ eaL m N C a st n e f ∧ eaL m N C a st n e f < e + n
  | 0, e, f, h1, h2 => by unfold eaL; omega
  | n + 1, e, f, h1, h2 => by
    unfold eaL
    split
    · have z := eaL_r (m := m) (N := N) (C := C) (a := a) (st := st) n (e + 1) (e : Int) (by omega) (by omega)
      omega
    · have z := eaL_r (m := m) (N := N) (C := C) (a := a) (st := st) n (e + 1) f h1 (by omega)
      omega
def eaV (m : Nat → Int) (N C : Nat) (a st : Int) : Int := eaL m N C a st 160 0 (-5)
theorem eaV_r {m : Nat → Int} {N C : Nat} {a st : Int} : -5 ≤ eaV m N C a st ∧ eaV m N C a st ≤ 159 := by
  have z := eaL_r (m := m) (N := N) (C := C) (a := a) (st := st) 160 0 (-5) (by decide) (by decide)
  unfold eaV
  omega
def enL (m : Nat → Int) (N C : Nat) (a : Int) : Nat → Int → Int
  | 0, f => f
  | n + 1, f => enL m N C a n (eaV m N C a (stampI m f))
def entryV (m : Nat → Int) (N C : Nat) (a k : Int) : Int := if (0 ≤ a ∧ a ≤ m 0 - 1) ∧ (0 ≤ k ∧ k ≤ entsN m a N C - 1) then enL m N C a (entsN m a N C - 1 - k).toNat (eaV m N C a (m 6 + 1)) else -1
theorem entsN_r {m : Nat → Int} {N C : Nat} {a : Int} (hcap : N ≤ 90) (hC2 : C ≤ 60) : 0 ≤ entsN m a N C ∧ entsN m a N C ≤ 150 := by
  have r1 := cnt_r (entTB m a) N
  have r2 := cnt_r (entSC m a) C
  unfold entsN
  omega
set_option maxHeartbeats 4000000 in
set_option maxRecDepth 100000 in
theorem m_stampOfI {G : mG} {l : Launch} (d : Nat) {h : mH} {x s : Nat} {f4 f6 f8 f9 f10 f11 f12 f13 f14 f16 f18 : Int} {m kp was pool tape pln pap rwd rw : Nat → Int}(hB : isM h x (mFs x f4 f6 f8 f9 f10 f11 f12 f13 f14 f16 f18 s) m kp was pool tape pln pap rwd rw) {e : Int} (he : e ≤ 159) (he0 : -5 ≤ e) : RUNM G l (d + 1) mX11_stampOf [.ref x, .int (J e)] h (fun v h' => v = some (.int (J (stampI m e))) ∧ h' = h) := by
  dsimp only [mFs] at hB
  refine RUNM.of (by decide +kernel) (Nat.le_of_ble_eq_true rfl) ?_
  refine r_iload_n (pc := 0) dX11_stampOf_0 rfl ?_
  refine rj_bipush (pc := 1) dX11_stampOf_1 (by decide +kernel) ?_
  refine rj_icmp_ge (pc := 3) (tgt := 20) dX11_stampOf_3 (by decide) (by first | assumption | exact b01_r | exact bz_r | omega | (constructor <;> omega) | exact hM _ | exact hPo _ | exact hTa _ | exact hRo _) (by first | assumption | exact b01_r | exact bz_r | omega | (constructor <;> omega) | exact hM _ | exact hPo _ | exact hTa _ | exact hRo _) (fun c_3 => ?_) (fun c_3 => ?_)
  · refine r_aload_n (pc := 20) dX11_stampOf_20 rfl (by first | rfl | exact isRefV_rf _) ?_
    refine rm_getf (pc := 21) dX11_stampOf_21 fX11_11 (by assumption) rfl ?_
    refine r_iload_n (pc := 24) dX11_stampOf_24 rfl ?_
    refine rj_bipush (pc := 25) dX11_stampOf_25 (by decide +kernel) ?_
    refine rj_isub (pc := 27) dX11_stampOf_27 ?_
    refine rj_iconst (pc := 28) dX11_stampOf_28 ?_
    refine r_callS2 (pc := 29) dX11_stampOf_29 qX11_ofScope kX11_42 sX11_ofScope (Nat.le_of_ble_eq_true rfl) (m_ofScope d) (fun v_29 h_29 q_29 => ?_)
    obtain ⟨rfl, rfl⟩ := q_29
    refine rj_iald (pc := 32) (j := (20 + 4 * (e - 100)).toNat) dX11_stampOf_32 (by first | exact isM.g0 (by assumption) | exact isM.g3 (by assumption) | exact isM.g4 (by assumption) | exact isM.g8 (by assumption) | exact isM.g7 (by assumption) | exact isM.g6 (by assumption) | exact isM.g5 (by assumption) | exact isM.g1 (by assumption) | exact isM.g2 (by assumption)) (by first | assumption | exact b01_r | exact bz_r | omega | (constructor <;> omega) | exact hM _ | exact hPo _ | exact hTa _ | exact hRo _) (by first | assumption | exact b01_r | exact bz_r | omega | (constructor <;> omega) | exact hM _ | exact hPo _ | exact hTa _ | exact hRo _) (by first | assumption | exact b01_r | exact bz_r | omega | (constructor <;> omega) | exact hM _ | exact hPo _ | exact hTa _ | exact hRo _) (by omega) ?_
    refine r_ireturn (pc := 33) .int dX11_stampOf_33 rfl (by first | rfl | assumption) ?_
    first
    | exact ⟨by unfold stampI; rw [if_pos (by omega)], rfl⟩
    | exact ⟨by unfold stampI; rw [if_neg (by omega)], rfl⟩
  · refine r_aload_n (pc := 6) dX11_stampOf_6 rfl (by first | rfl | exact isRefV_rf _) ?_
    refine rm_getf (pc := 7) dX11_stampOf_7 fX11_11 (by assumption) rfl ?_
    refine r_iload_n (pc := 10) dX11_stampOf_10 rfl ?_
    refine rj_iconst (pc := 11) dX11_stampOf_11 ?_
    refine rj_iconst (pc := 12) dX11_stampOf_12 ?_
    refine r_callS3 (pc := 13) dX11_stampOf_13 qX11_ofThing kX11_54 sX11_ofThing (Nat.le_of_ble_eq_true rfl) (m_ofThing d) (fun v_13 h_13 q_13 => ?_)
    obtain ⟨rfl, rfl⟩ := q_13
    refine rj_iald (pc := 16) (j := (260 + 14 * e).toNat) dX11_stampOf_16 (by first | exact isM.g0 (by assumption) | exact isM.g3 (by assumption) | exact isM.g4 (by assumption) | exact isM.g8 (by assumption) | exact isM.g7 (by assumption) | exact isM.g6 (by assumption) | exact isM.g5 (by assumption) | exact isM.g1 (by assumption) | exact isM.g2 (by assumption)) (by first | assumption | exact b01_r | exact bz_r | omega | (constructor <;> omega) | exact hM _ | exact hPo _ | exact hTa _ | exact hRo _) (by first | assumption | exact b01_r | exact bz_r | omega | (constructor <;> omega) | exact hM _ | exact hPo _ | exact hTa _ | exact hRo _) (by first | assumption | exact b01_r | exact bz_r | omega | (constructor <;> omega) | exact hM _ | exact hPo _ | exact hTa _ | exact hRo _) (by omega) ?_
    refine r_goto (pc := 17) (tgt := 33) dX11_stampOf_17 (by decide) ?_
    refine r_ireturn (pc := 33) .int dX11_stampOf_33 rfl (by first | rfl | assumption) ?_
    first
    | exact ⟨by unfold stampI; rw [if_pos (by omega)], rfl⟩
    | exact ⟨by unfold stampI; rw [if_neg (by omega)], rfl⟩
set_option maxHeartbeats 4000000 in
set_option maxRecDepth 100000 in
theorem L_entry {G : mG} {l : Launch} (d : Nat) {h : mH} {x s : Nat} {f4 f6 f8 f9 f10 f11 f12 f13 f14 f16 f18 : Int} {m kp was pool tape pln pap rwd rw : Nat → Int}(hB : isM h x (mFs x f4 f6 f8 f9 f10 f11 f12 f13 f14 f16 f18 s) m kp was pool tape pln pap rwd rw) (hM : ∀ q, InR (m q)) {N C : Nat} (hN : m 1 = (N : Int)) (hcap : N ≤ 90) (hC : m 0 = (C : Int)) (hC1 : 1 ≤ C) (hC2 : C ≤ 60) {a k : Int} (ha : InR a) : ∀ (n : Nat) (f : Int), -5 ≤ f → f ≤ 159 → 0 ≤ k → k + n ≤ 1000 → RUN G l (d + 4) mX11_entry 49 [some (.ref x), some (.int (J a)), some (.int (J k)), some (.int (J f)), some (.int (J (k + n)))] [] h (fun v h' => v = some (.int (J (enL m N C a n f))) ∧ h' = h) := by
  have hB0 := hB
  dsimp only [mFs] at hB
  intro n
  induction n with
  | zero =>
    intro f h0 h1 h2 h3
    refine r_iload (pc := 49) dX11_entry_49 rfl ?_
    refine r_iload_n (pc := 51) dX11_entry_51 rfl ?_
    refine rj_icmp_le (pc := 52) (tgt := 72) dX11_entry_52 (by decide) (by first | assumption | exact b01_r | exact bz_r | omega | (constructor <;> omega) | exact hM _ | exact hPo _ | exact hTa _ | exact hRo _) (by first | assumption | exact b01_r | exact bz_r | omega | (constructor <;> omega) | exact hM _ | exact hPo _ | exact hTa _ | exact hRo _) (fun c_52 => ?_) (fun c_52 => ?_)
    · refine r_iload_n (pc := 72) dX11_entry_72 rfl ?_
      refine r_ireturn (pc := 73) .int dX11_entry_73 rfl (by first | rfl | assumption) ?_
      exact ⟨rfl, rfl⟩
    · exfalso; omega
  | succ n ih =>
    intro f h0 h1 h2 h3
    have rr := eaV_r (m := m) (N := N) (C := C) (a := a) (st := stampI m f)
    refine r_iload (pc := 49) dX11_entry_49 rfl ?_
    refine r_iload_n (pc := 51) dX11_entry_51 rfl ?_
    refine rj_icmp_le (pc := 52) (tgt := 72) dX11_entry_52 (by decide) (by first | assumption | exact b01_r | exact bz_r | omega | (constructor <;> omega) | exact hM _ | exact hPo _ | exact hTa _ | exact hRo _) (by first | assumption | exact b01_r | exact bz_r | omega | (constructor <;> omega) | exact hM _ | exact hPo _ | exact hTa _ | exact hRo _) (fun c_52 => ?_) (fun c_52 => ?_)
    · refine r_iload_n (pc := 72) dX11_entry_72 rfl ?_
      refine r_ireturn (pc := 73) .int dX11_entry_73 rfl (by first | rfl | assumption) ?_
      exfalso; omega
    · refine r_aload_n (pc := 55) dX11_entry_55 rfl (by first | rfl | exact isRefV_rf _) ?_
      refine r_iload_n (pc := 56) dX11_entry_56 rfl ?_
      refine r_aload_n (pc := 57) dX11_entry_57 rfl (by first | rfl | exact isRefV_rf _) ?_
      refine r_iload_n (pc := 58) dX11_entry_58 rfl ?_
      refine r_callV1 (pc := 59) dX11_entry_59 qX11_stampOf kX11_258 vX11_stampOf (by exact isM.gx (by assumption)) rfl rfl (Nat.le_of_ble_eq_true rfl) (m_stampOfI (d + 2) hB0 (by omega) (by omega)) (fun v_59 h_59 q_59 => ?_)
      obtain ⟨rfl, rfl⟩ := q_59
      refine r_callV2 (pc := 62) dX11_entry_62 qX11_entryAhead kX11_261 vX11_entryAhead (by exact isM.gx (by assumption)) rfl rfl (Nat.le_of_ble_eq_true rfl) (m_entryAhead d hB0 hM hN hcap hC hC2 ha (stampI_r hM _)) (fun v_62 h_62 q_62 => ?_)
      obtain ⟨rfl, rfl⟩ := q_62
      refine r_istore_n (pc := 65) dX11_entry_65 (Nat.le_of_ble_eq_true rfl) ?_
      dsimp only [lsSt, List.set, mLs, mEnt]
      refine rj_iinc (pc := 66) dX11_entry_66 (Nat.le_of_ble_eq_true rfl) rfl ?_
      dsimp only [lsSt, List.set, mLs, mEnt]
      refine r_goto (pc := 69) (tgt := 49) dX11_entry_69 (by decide) ?_
      have z := ih (eaV m N C a (stampI m f)) rr.1 rr.2 h2 (by omega)
      rw [show k + ((n + 1 : Nat) : Int) + -1 = k + n by omega]
      exact z
set_option maxHeartbeats 4000000 in
set_option maxRecDepth 100000 in
theorem m_entry {G : mG} {l : Launch} (d : Nat) {h : mH} {x s : Nat} {f4 f6 f8 f9 f10 f11 f12 f13 f14 f16 f18 : Int} {m kp was pool tape pln pap rwd rw : Nat → Int}(hB : isM h x (mFs x f4 f6 f8 f9 f10 f11 f12 f13 f14 f16 f18 s) m kp was pool tape pln pap rwd rw) (hM : ∀ q, InR (m q)) {N C : Nat} (hN : m 1 = (N : Int)) (hcap : N ≤ 90) (hC : m 0 = (C : Int)) (hC1 : 1 ≤ C) (hC2 : C ≤ 60) {a k : Int} (ha : InR a) (hk : InR k) (h6 : InR (m 6 + 1)) : RUNM G l (d + 4) mX11_entry [.ref x, .int (J a), .int (J k)] h (fun v h' => v = some (.int (J (entryV m N C a k))) ∧ h' = h) := by
  have hB0 := hB
  dsimp only [mFs] at hB
  refine RUNM.of (by decide +kernel) (Nat.le_of_ble_eq_true rfl) ?_
  have r0 := hM 0
  have rr := entsN_r (m := m) (a := a) hcap hC2
  have ra := eaV_r (m := m) (N := N) (C := C) (a := a) (st := m 6 + 1)
  refine r_aload_n (pc := 0) dX11_entry_0 rfl (by first | rfl | exact isRefV_rf _) ?_
  refine r_iload_n (pc := 1) dX11_entry_1 rfl ?_
  refine r_callV1 (pc := 2) dX11_entry_2 qX11_isScope kX11_50 vX11_isScope (by exact isM.gx (by assumption)) rfl rfl (Nat.le_of_ble_eq_true rfl) (m_isScope (d + 2) hB0 ha ⟨by omega, by omega⟩) (fun v_2 h_2 q_2 => ?_)
  obtain ⟨rfl, rfl⟩ := q_2
  refine rj_if_eq (pc := 5) (tgt := 23) dX11_entry_5 (by decide) (by first | assumption | exact b01_r | exact bz_r | omega | (constructor <;> omega) | exact hM _ | exact hPo _ | exact hTa _ | exact hRo _) (fun c_5 => ?_) (fun c_5 => ?_)
  · try simp only [b01_0, bz_0, Classical.not_not] at c_5
    refine rj_iconst (pc := 23) dX11_entry_23 ?_
    refine r_ireturn (pc := 24) .int dX11_entry_24 rfl (by first | rfl | assumption) ?_
    first
    | exact ⟨by unfold entryV; rw [if_neg (fun g => c_5 g.1)], rfl⟩
    | exact ⟨by unfold entryV; rw [if_neg (fun g => c_20 g.2)], rfl⟩
  · try simp only [b01_0, bz_0, Classical.not_not] at c_5
    refine r_iload_n (pc := 8) dX11_entry_8 rfl ?_
    refine rj_iconst (pc := 9) dX11_entry_9 ?_
    refine r_aload_n (pc := 10) dX11_entry_10 rfl (by first | rfl | exact isRefV_rf _) ?_
    refine r_iload_n (pc := 11) dX11_entry_11 rfl ?_
    refine r_callV1 (pc := 12) dX11_entry_12 qX11_entries kX11_241 vX11_entries (by exact isM.gx (by assumption)) rfl rfl (Nat.le_of_ble_eq_true rfl) (m_entries (d + 1) hB0 hM hN hcap hC hC1 hC2 ha) (fun v_12 h_12 q_12 => ?_)
    obtain ⟨rfl, rfl⟩ := q_12
    refine rj_iconst (pc := 15) dX11_entry_15 ?_
    refine rj_isub (pc := 16) dX11_entry_16 ?_
    refine r_callS3 (pc := 17) dX11_entry_17 qX11_isIn kX11_46 sX11_isIn (Nat.le_of_ble_eq_true rfl) (m_isIn (d + 3) hk (by decide) ⟨by omega, by omega⟩) (fun v_17 h_17 q_17 => ?_)
    obtain ⟨rfl, rfl⟩ := q_17
    refine rj_if_ne (pc := 20) (tgt := 25) dX11_entry_20 (by decide) (by first | assumption | exact b01_r | exact bz_r | omega | (constructor <;> omega) | exact hM _ | exact hPo _ | exact hTa _ | exact hRo _) (fun c_20 => ?_) (fun c_20 => ?_)
    · try simp only [b01_0, bz_0, Classical.not_not] at c_20
      refine r_aload_n (pc := 25) dX11_entry_25 rfl (by first | rfl | exact isRefV_rf _) ?_
      refine r_iload_n (pc := 26) dX11_entry_26 rfl ?_
      refine r_aload_n (pc := 27) dX11_entry_27 rfl (by first | rfl | exact isRefV_rf _) ?_
      refine rm_getf (pc := 28) dX11_entry_28 fX11_11 (by assumption) rfl ?_
      refine rj_bipush (pc := 31) dX11_entry_31 (by decide +kernel) ?_
      refine rj_iald (pc := 33) (j := 6) dX11_entry_33 (by first | exact isM.g0 (by assumption) | exact isM.g3 (by assumption) | exact isM.g4 (by assumption) | exact isM.g8 (by assumption) | exact isM.g7 (by assumption) | exact isM.g6 (by assumption) | exact isM.g5 (by assumption) | exact isM.g1 (by assumption) | exact isM.g2 (by assumption)) (by first | assumption | exact b01_r | exact bz_r | omega | (constructor <;> omega) | exact hM _ | exact hPo _ | exact hTa _ | exact hRo _) (by first | assumption | exact b01_r | exact bz_r | omega | (constructor <;> omega) | exact hM _ | exact hPo _ | exact hTa _ | exact hRo _) (by first | assumption | exact b01_r | exact bz_r | omega | (constructor <;> omega) | exact hM _ | exact hPo _ | exact hTa _ | exact hRo _) rfl ?_
      refine rj_iconst (pc := 34) dX11_entry_34 ?_
      refine rj_iadd (pc := 35) dX11_entry_35 ?_
      refine r_callV2 (pc := 36) dX11_entry_36 qX11_entryAhead kX11_261 vX11_entryAhead (by exact isM.gx (by assumption)) rfl rfl (Nat.le_of_ble_eq_true rfl) (m_entryAhead d hB0 hM hN hcap hC hC2 ha h6) (fun v_36 h_36 q_36 => ?_)
      obtain ⟨rfl, rfl⟩ := q_36
      refine r_istore_n (pc := 39) dX11_entry_39 (Nat.le_of_ble_eq_true rfl) ?_
      dsimp only [lsSt, List.set, mLs, mEnt]
      refine r_aload_n (pc := 40) dX11_entry_40 rfl (by first | rfl | exact isRefV_rf _) ?_
      refine r_iload_n (pc := 41) dX11_entry_41 rfl ?_
      refine r_callV1 (pc := 42) dX11_entry_42 qX11_entries kX11_241 vX11_entries (by exact isM.gx (by assumption)) rfl rfl (Nat.le_of_ble_eq_true rfl) (m_entries (d + 1) hB0 hM hN hcap hC hC1 hC2 ha) (fun v_42 h_42 q_42 => ?_)
      obtain ⟨rfl, rfl⟩ := q_42
      refine rj_iconst (pc := 45) dX11_entry_45 ?_
      refine rj_isub (pc := 46) dX11_entry_46 ?_
      refine r_istore (pc := 47) dX11_entry_47 (Nat.le_of_ble_eq_true rfl) ?_
      dsimp only [lsSt, List.set, mLs, mEnt]
      have z := L_entry (G := G) (l := l) d (k := k) hB0 hM hN hcap hC hC1 hC2 ha (entsN m a N C - 1 - k).toNat (eaV m N C a (m 6 + 1)) ra.1 ra.2 (by omega) (by omega)
      rw [show k + ((entsN m a N C - 1 - k).toNat : Int) = entsN m a N C - 1 by omega] at z
      rw [show entryV m N C a k = enL m N C a (entsN m a N C - 1 - k).toNat (eaV m N C a (m 6 + 1)) by unfold entryV; rw [if_pos ⟨c_5, c_20⟩]]
      exact z
    · try simp only [b01_0, bz_0, Classical.not_not] at c_20
      refine rj_iconst (pc := 23) dX11_entry_23 ?_
      refine r_ireturn (pc := 24) .int dX11_entry_24 rfl (by first | rfl | assumption) ?_
      first
      | exact ⟨by unfold entryV; rw [if_neg (fun g => c_5 g.1)], rfl⟩
      | exact ⟨by unfold entryV; rw [if_neg (fun g => c_20 g.2)], rfl⟩
end mg_42
section mg_43
/-! ===== contracts of the reference: isFine, row, pooled ===== -/
theorem J_and (p q : Bool) : J (bz p) &&& J (bz q) = J (bz (p && q)) := by
  rw [J_def, J_def, J_def]
  cases p <;> cases q <;> decide
theorem rj_iandB {G : mG} {l : Launch} {d : Nat} {M : mM} {pc : Nat} {ls : List (Option Value)} {st : List Value} {h : mH} {Q : Option Value → mH → Prop} {p q : Bool} (hdg : decode M.2.1 pc = .ok (.iand, 1)) (K : RUN G l d M (pc + 1) ls (.int (J (bz (p && q))) :: st) h Q) : RUN G l d M pc ls (.int (J (bz q)) :: .int (J (bz p)) :: st) h Q := r_iand hdg (by rw [J_and]; exact K)
theorem b01_z {p : Prop} [Decidable p] : b01 p = bz (decide p) := bz_d.symm
def fineL (m : Nat → Int) (t : Int) : Nat → Nat → Bool → Bool
  | 0, _, b => b
  | n + 1, k, b => fineL m t n (k + 1) (b && decide (openP m (m (1620 + 72 * t + k).toNat)))
def fineV (m : Nat → Int) (t : Int) : Bool := fineL m t (m (1619 + 72 * t).toNat).toNat 0 (decide (m (1614 + 72 * t).toNat = 0))
set_option maxHeartbeats 4000000 in
set_option maxRecDepth 100000 in
theorem L_isFine {G : mG} {l : Launch} (d : Nat) {h : mH} {x s : Nat} {f4 f6 f8 f9 f10 f11 f12 f13 f14 f16 f18 : Int} {m kp was pool tape pln pap rwd rw : Nat → Int}(hB : isM h x (mFs x f4 f6 f8 f9 f10 f11 f12 f13 f14 f16 f18 s) m kp was pool tape pln pap rwd rw) (hM : ∀ q, InR (m q)) (h0 : 0 ≤ m 0 ∧ m 0 ≤ 60) {t : Int} (h1 : 0 ≤ t) (h2 : t ≤ 9) (hd : 0 ≤ m (1619 + 72 * t).toNat ∧ m (1619 + 72 * t).toNat ≤ 60) : ∀ (n k : Nat) (b : Bool), (k : Int) + n = m (1619 + 72 * t).toNat → RUN G l (d + 3) mX11_isFine 23 [some (.ref x), some (.int (J t)), some (.int (J (bz b))), some (.int (J (k : Int)))] [] h (fun v h' => v = some (.int (J (bz (fineL m t n k b)))) ∧ h' = h) := by
  have hB0 := hB
  dsimp only [mFs] at hB
  intro n
  induction n with
  | zero =>
    intro k b hk
    refine r_iload_n (pc := 23) dX11_isFine_23 rfl ?_
    refine r_aload_n (pc := 24) dX11_isFine_24 rfl (by first | rfl | exact isRefV_rf _) ?_
    refine rm_getf (pc := 25) dX11_isFine_25 fX11_11 (by assumption) rfl ?_
    refine r_iload_n (pc := 28) dX11_isFine_28 rfl ?_
    refine rj_bipush (pc := 29) dX11_isFine_29 (by decide +kernel) ?_
    refine rj_iconst (pc := 31) dX11_isFine_31 ?_
    refine r_callS3 (pc := 32) dX11_isFine_32 qX11_ofTask kX11_58 sX11_ofTask (Nat.le_of_ble_eq_true rfl) (m_ofTask (d + 2)) (fun v_32 h_32 q_32 => ?_)
    obtain ⟨rfl, rfl⟩ := q_32
    refine rj_iald (pc := 35) (j := (1619 + 72 * t).toNat) dX11_isFine_35 (by first | exact isM.g0 (by assumption) | exact isM.g3 (by assumption) | exact isM.g4 (by assumption) | exact isM.g8 (by assumption) | exact isM.g7 (by assumption) | exact isM.g6 (by assumption) | exact isM.g5 (by assumption) | exact isM.g1 (by assumption) | exact isM.g2 (by assumption)) (by first | assumption | exact b01_r | exact bz_r | omega | (constructor <;> omega) | exact hM _ | exact hPo _ | exact hTa _ | exact hRo _) (by first | assumption | exact b01_r | exact bz_r | omega | (constructor <;> omega) | exact hM _ | exact hPo _ | exact hTa _ | exact hRo _) (by first | assumption | exact b01_r | exact bz_r | omega | (constructor <;> omega) | exact hM _ | exact hPo _ | exact hTa _ | exact hRo _) (by omega) ?_
    refine rj_icmp_ge (pc := 36) (tgt := 64) dX11_isFine_36 (by decide) (by first | assumption | exact b01_r | exact bz_r | omega | (constructor <;> omega) | exact hM _ | exact hPo _ | exact hTa _ | exact hRo _) (by first | assumption | exact b01_r | exact bz_r | omega | (constructor <;> omega) | exact hM _ | exact hPo _ | exact hTa _ | exact hRo _) (fun c_36 => ?_) (fun c_36 => ?_)
    · refine r_iload_n (pc := 64) dX11_isFine_64 rfl ?_
      refine r_ireturn (pc := 65) .boolean dX11_isFine_65 rfl (by first | exact nar_J0 | exact nar_J1 | exact nar_b01 | exact nar_bz) ?_
      exact ⟨rfl, rfl⟩
    · exfalso; omega
  | succ n ih =>
    intro k b hk
    refine r_iload_n (pc := 23) dX11_isFine_23 rfl ?_
    refine r_aload_n (pc := 24) dX11_isFine_24 rfl (by first | rfl | exact isRefV_rf _) ?_
    refine rm_getf (pc := 25) dX11_isFine_25 fX11_11 (by assumption) rfl ?_
    refine r_iload_n (pc := 28) dX11_isFine_28 rfl ?_
    refine rj_bipush (pc := 29) dX11_isFine_29 (by decide +kernel) ?_
    refine rj_iconst (pc := 31) dX11_isFine_31 ?_
    refine r_callS3 (pc := 32) dX11_isFine_32 qX11_ofTask kX11_58 sX11_ofTask (Nat.le_of_ble_eq_true rfl) (m_ofTask (d + 2)) (fun v_32 h_32 q_32 => ?_)
    obtain ⟨rfl, rfl⟩ := q_32
    refine rj_iald (pc := 35) (j := (1619 + 72 * t).toNat) dX11_isFine_35 (by first | exact isM.g0 (by assumption) | exact isM.g3 (by assumption) | exact isM.g4 (by assumption) | exact isM.g8 (by assumption) | exact isM.g7 (by assumption) | exact isM.g6 (by assumption) | exact isM.g5 (by assumption) | exact isM.g1 (by assumption) | exact isM.g2 (by assumption)) (by first | assumption | exact b01_r | exact bz_r | omega | (constructor <;> omega) | exact hM _ | exact hPo _ | exact hTa _ | exact hRo _) (by first | assumption | exact b01_r | exact bz_r | omega | (constructor <;> omega) | exact hM _ | exact hPo _ | exact hTa _ | exact hRo _) (by first | assumption | exact b01_r | exact bz_r | omega | (constructor <;> omega) | exact hM _ | exact hPo _ | exact hTa _ | exact hRo _) (by omega) ?_
    refine rj_icmp_ge (pc := 36) (tgt := 64) dX11_isFine_36 (by decide) (by first | assumption | exact b01_r | exact bz_r | omega | (constructor <;> omega) | exact hM _ | exact hPo _ | exact hTa _ | exact hRo _) (by first | assumption | exact b01_r | exact bz_r | omega | (constructor <;> omega) | exact hM _ | exact hPo _ | exact hTa _ | exact hRo _) (fun c_36 => ?_) (fun c_36 => ?_)
    · refine r_iload_n (pc := 64) dX11_isFine_64 rfl ?_
      refine r_ireturn (pc := 65) .boolean dX11_isFine_65 rfl (by first | exact nar_J0 | exact nar_J1 | exact nar_b01 | exact nar_bz) ?_
      exfalso; omega
    · refine r_iload_n (pc := 39) dX11_isFine_39 rfl ?_
      refine r_aload_n (pc := 40) dX11_isFine_40 rfl (by first | rfl | exact isRefV_rf _) ?_
      refine r_aload_n (pc := 41) dX11_isFine_41 rfl (by first | rfl | exact isRefV_rf _) ?_
      refine rm_getf (pc := 42) dX11_isFine_42 fX11_11 (by assumption) rfl ?_
      refine r_iload_n (pc := 45) dX11_isFine_45 rfl ?_
      refine rj_bipush (pc := 46) dX11_isFine_46 (by decide +kernel) ?_
      refine r_iload_n (pc := 48) dX11_isFine_48 rfl ?_
      refine r_callS3 (pc := 49) dX11_isFine_49 qX11_ofTask kX11_58 sX11_ofTask (Nat.le_of_ble_eq_true rfl) (m_ofTask (d + 2)) (fun v_49 h_49 q_49 => ?_)
      obtain ⟨rfl, rfl⟩ := q_49
      refine rj_iald (pc := 52) (j := (1620 + 72 * t + (k : Int)).toNat) dX11_isFine_52 (by first | exact isM.g0 (by assumption) | exact isM.g3 (by assumption) | exact isM.g4 (by assumption) | exact isM.g8 (by assumption) | exact isM.g7 (by assumption) | exact isM.g6 (by assumption) | exact isM.g5 (by assumption) | exact isM.g1 (by assumption) | exact isM.g2 (by assumption)) (by first | assumption | exact b01_r | exact bz_r | omega | (constructor <;> omega) | exact hM _ | exact hPo _ | exact hTa _ | exact hRo _) (by first | assumption | exact b01_r | exact bz_r | omega | (constructor <;> omega) | exact hM _ | exact hPo _ | exact hTa _ | exact hRo _) (by first | assumption | exact b01_r | exact bz_r | omega | (constructor <;> omega) | exact hM _ | exact hPo _ | exact hTa _ | exact hRo _) (by omega) ?_
      refine r_callV1 (pc := 53) dX11_isFine_53 qX11_isOpen kX11_146 vX11_isOpen (by exact isM.gx (by assumption)) rfl rfl (Nat.le_of_ble_eq_true rfl) (m_isOpen d hB0 hM h0 (hM _)) (fun v_53 h_53 q_53 => ?_)
      obtain ⟨rfl, rfl⟩ := q_53
      rw [b01_z]
      refine rj_iandB (pc := 56) dX11_isFine_56 ?_
      refine r_istore_n (pc := 57) dX11_isFine_57 (Nat.le_of_ble_eq_true rfl) ?_
      dsimp only [lsSt, List.set, mLs, mEnt]
      refine rj_iinc (pc := 58) dX11_isFine_58 (Nat.le_of_ble_eq_true rfl) rfl ?_
      dsimp only [lsSt, List.set, mLs, mEnt]
      refine r_goto (pc := 61) (tgt := 23) dX11_isFine_61 (by decide) ?_
      exact ih (k + 1) _ (by omega)
set_option maxHeartbeats 4000000 in
set_option maxRecDepth 100000 in
theorem m_isFine {G : mG} {l : Launch} (d : Nat) {h : mH} {x s : Nat} {f4 f6 f8 f9 f10 f11 f12 f13 f14 f16 f18 : Int} {m kp was pool tape pln pap rwd rw : Nat → Int}(hB : isM h x (mFs x f4 f6 f8 f9 f10 f11 f12 f13 f14 f16 f18 s) m kp was pool tape pln pap rwd rw) (hM : ∀ q, InR (m q)) (h0 : 0 ≤ m 0 ∧ m 0 ≤ 60) {t : Int} (h1 : 0 ≤ t) (h2 : t ≤ 9) (hd : 0 ≤ m (1619 + 72 * t).toNat ∧ m (1619 + 72 * t).toNat ≤ 60) : RUNM G l (d + 3) mX11_isFine [.ref x, .int (J t)] h (fun v h' => v = some (.int (J (bz (fineV m t)))) ∧ h' = h) := by
  have hB0 := hB
  dsimp only [mFs] at hB
  refine RUNM.of (by decide +kernel) (Nat.le_of_ble_eq_true rfl) ?_
  refine r_aload_n (pc := 0) dX11_isFine_0 rfl (by first | rfl | exact isRefV_rf _) ?_
  refine rm_getf (pc := 1) dX11_isFine_1 fX11_11 (by assumption) rfl ?_
  refine r_iload_n (pc := 4) dX11_isFine_4 rfl ?_
  refine rj_bipush (pc := 5) dX11_isFine_5 (by decide +kernel) ?_
  refine rj_iconst (pc := 7) dX11_isFine_7 ?_
  refine r_callS3 (pc := 8) dX11_isFine_8 qX11_ofTask kX11_58 sX11_ofTask (Nat.le_of_ble_eq_true rfl) (m_ofTask (d + 2)) (fun v_8 h_8 q_8 => ?_)
  obtain ⟨rfl, rfl⟩ := q_8
  refine rj_iald (pc := 11) (j := (1614 + 72 * t).toNat) dX11_isFine_11 (by first | exact isM.g0 (by assumption) | exact isM.g3 (by assumption) | exact isM.g4 (by assumption) | exact isM.g8 (by assumption) | exact isM.g7 (by assumption) | exact isM.g6 (by assumption) | exact isM.g5 (by assumption) | exact isM.g1 (by assumption) | exact isM.g2 (by assumption)) (by first | assumption | exact b01_r | exact bz_r | omega | (constructor <;> omega) | exact hM _ | exact hPo _ | exact hTa _ | exact hRo _) (by first | assumption | exact b01_r | exact bz_r | omega | (constructor <;> omega) | exact hM _ | exact hPo _ | exact hTa _ | exact hRo _) (by first | assumption | exact b01_r | exact bz_r | omega | (constructor <;> omega) | exact hM _ | exact hPo _ | exact hTa _ | exact hRo _) (by omega) ?_
  refine rj_if_ne (pc := 12) (tgt := 19) dX11_isFine_12 (by decide) (by first | assumption | exact b01_r | exact bz_r | omega | (constructor <;> omega) | exact hM _ | exact hPo _ | exact hTa _ | exact hRo _) (fun c_12 => ?_) (fun c_12 => ?_)
  · try simp only [b01_0, bz_0, Classical.not_not] at c_12
    refine rj_iconst (pc := 19) dX11_isFine_19 ?_
    refine r_istore_n (pc := 20) dX11_isFine_20 (Nat.le_of_ble_eq_true rfl) ?_
    dsimp only [lsSt, List.set, mLs, mEnt]
    refine rj_iconst (pc := 21) dX11_isFine_21 ?_
    refine r_istore_n (pc := 22) dX11_isFine_22 (Nat.le_of_ble_eq_true rfl) ?_
    dsimp only [lsSt, List.set, mLs, mEnt]
    have z := L_isFine (G := G) (l := l) d hB0 hM h0 h1 h2 hd (m (1619 + 72 * t).toNat).toNat 0 false (by omega)
    rw [show fineV m t = fineL m t (m (1619 + 72 * t).toNat).toNat 0 false by unfold fineV; rw [decide_eq_false c_12]]
    rw [show bz false = 0 from rfl] at z
    exact z
  · try simp only [b01_0, bz_0, Classical.not_not] at c_12
    refine rj_iconst (pc := 15) dX11_isFine_15 ?_
    refine r_goto (pc := 16) (tgt := 20) dX11_isFine_16 (by decide) ?_
    refine r_istore_n (pc := 20) dX11_isFine_20 (Nat.le_of_ble_eq_true rfl) ?_
    dsimp only [lsSt, List.set, mLs, mEnt]
    refine rj_iconst (pc := 21) dX11_isFine_21 ?_
    refine r_istore_n (pc := 22) dX11_isFine_22 (Nat.le_of_ble_eq_true rfl) ?_
    dsimp only [lsSt, List.set, mLs, mEnt]
    have z := L_isFine (G := G) (l := l) d hB0 hM h0 h1 h2 hd (m (1619 + 72 * t).toNat).toNat 0 true (by omega)
    rw [show fineV m t = fineL m t (m (1619 + 72 * t).toNat).toNat 0 true by unfold fineV; rw [decide_eq_true c_12]]
    rw [show bz true = 1 from rfl] at z
    exact z
def zrF (f : Nat → Int) (a k : Nat) : Nat → Int := fun q => if a ≤ q ∧ q < a + k then 0 else f q
theorem zrF_0 (f : Nat → Int) (a : Nat) : zrF f a 0 = f := by funext q; unfold zrF; rw [if_neg (by omega)]
theorem zrF_s (f : Nat → Int) (a k : Nat) : updI (zrF f a k) (a + k) 0 = zrF f a (k + 1) := by
  funext q
  unfold updI zrF
  by_cases h : q = a + k
  · rw [if_pos h, if_pos (by omega)]
  · rw [if_neg h]
    by_cases h2 : a ≤ q ∧ q < a + k
    · rw [if_pos h2, if_pos (by omega)]
    · rw [if_neg h2, if_neg (by omega)]
def rowV (a n : Int) : Int := if 0 ≤ a ∧ a ≤ 3 then (if n ≤ 40 then (if 0 ≤ n then 1 else -14) else -2) else -1
def rowDo (a n : Int) : Prop := (0 ≤ a ∧ a ≤ 3) ∧ 0 ≤ n ∧ n ≤ 40
set_option maxHeartbeats 4000000 in
set_option maxRecDepth 100000 in
theorem L_row {G : mG} {l : Launch} (d : Nat) {x s : Nat} {f4 f6 f8 f9 f10 f11 f12 f13 f14 f16 f18 : Int} {m kp was pool tape pln pap rwd rw : Nat → Int} {a n : Int} (h0 : 0 ≤ a ∧ a ≤ 3) : ∀ (j k : Nat) (h : mH), isM h x (mFs x f4 f6 f8 f9 f10 f11 f12 f13 f14 f16 f18 s) m kp was pool tape pln pap rwd (zrF rw (40 * a.toNat) k) → k + j = 40 → RUN G l d mX11_row 34 [some (.ref x), some (.int (J a)), some (.int (J n)), some (.int (J (k : Int)))] [] h (fun v h' => v = some (.int (J 1)) ∧ isM h' x (mFs x f4 f6 f8 f9 f10 f11 f12 f13 f14 f16 f18 s) m kp was pool tape pln pap rwd (zrF rw (40 * a.toNat) 40) ∧ Same (mBlk x) h h') := by
  intro j
  induction j with
  | zero =>
    intro k h hB hk
    dsimp only [mFs] at hB
    refine r_iload_n (pc := 34) dX11_row_34 rfl ?_
    refine rj_bipush (pc := 35) dX11_row_35 (by decide +kernel) ?_
    refine rj_icmp_ge (pc := 37) (tgt := 58) dX11_row_37 (by decide) (by first | assumption | exact b01_r | exact bz_r | omega | (constructor <;> omega) | exact hM _ | exact hPo _ | exact hTa _ | exact hRo _) (by first | assumption | exact b01_r | exact bz_r | omega | (constructor <;> omega) | exact hM _ | exact hPo _ | exact hTa _ | exact hRo _) (fun c_37 => ?_) (fun c_37 => ?_)
    · refine rj_iconst (pc := 58) dX11_row_58 ?_
      refine r_ireturn (pc := 59) .int dX11_row_59 rfl (by first | rfl | assumption) ?_
      have e : k = 40 := by omega
      subst e
      exact ⟨rfl, hB, Same.refl⟩
    · exfalso; omega
  | succ j ih =>
    intro k h hB hk
    dsimp only [mFs] at hB
    refine r_iload_n (pc := 34) dX11_row_34 rfl ?_
    refine rj_bipush (pc := 35) dX11_row_35 (by decide +kernel) ?_
    refine rj_icmp_ge (pc := 37) (tgt := 58) dX11_row_37 (by decide) (by first | assumption | exact b01_r | exact bz_r | omega | (constructor <;> omega) | exact hM _ | exact hPo _ | exact hTa _ | exact hRo _) (by first | assumption | exact b01_r | exact bz_r | omega | (constructor <;> omega) | exact hM _ | exact hPo _ | exact hTa _ | exact hRo _) (fun c_37 => ?_) (fun c_37 => ?_)
    · refine rj_iconst (pc := 58) dX11_row_58 ?_
      refine r_ireturn (pc := 59) .int dX11_row_59 rfl (by first | rfl | assumption) ?_
      exfalso; omega
    · refine r_aload_n (pc := 40) dX11_row_40 rfl (by first | rfl | exact isRefV_rf _) ?_
      refine rm_getf (pc := 41) dX11_row_41 fX11_39 (by assumption) rfl ?_
      refine rj_bipush (pc := 44) dX11_row_44 (by decide +kernel) ?_
      refine r_iload_n (pc := 46) dX11_row_46 rfl ?_
      refine rj_imul (pc := 47) dX11_row_47 ?_
      refine r_iload_n (pc := 48) dX11_row_48 rfl ?_
      refine rj_iadd (pc := 49) dX11_row_49 ?_
      refine rj_iconst (pc := 50) dX11_row_50 ?_
      first | refine rm_iast8 (pc := 51) (j := 40 * a.toNat + k) dX11_row_51 (by assumption) (by first | assumption | exact b01_r | exact bz_r | omega | (constructor <;> omega) | exact hM _ | exact hPo _ | exact hTa _ | exact hRo _) (by first | assumption | exact b01_r | exact bz_r | omega | (constructor <;> omega) | exact hM _ | exact hPo _ | exact hTa _ | exact hRo _) (by first | assumption | exact b01_r | exact bz_r | omega | (constructor <;> omega) | exact hM _ | exact hPo _ | exact hTa _ | exact hRo _) (by omega) (fun h_51 hB_51 hS_51 => ?_)
      rw [zrF_s] at hB_51
      refine rj_iinc (pc := 52) dX11_row_52 (Nat.le_of_ble_eq_true rfl) rfl ?_
      dsimp only [lsSt, List.set, mLs, mEnt]
      refine r_goto (pc := 55) (tgt := 34) dX11_row_55 (by decide) ?_
      have z := ih (k + 1) h_51 hB_51 (by omega)
      exact z.mono (fun v h' g => ⟨g.1, g.2.1, hS_51.trans g.2.2⟩)
set_option maxHeartbeats 4000000 in
set_option maxRecDepth 100000 in
theorem m_row {G : mG} {l : Launch} (d : Nat) {h : mH} {x s : Nat} {f4 f6 f8 f9 f10 f11 f12 f13 f14 f16 f18 : Int} {m kp was pool tape pln pap rwd rw : Nat → Int}(hB : isM h x (mFs x f4 f6 f8 f9 f10 f11 f12 f13 f14 f16 f18 s) m kp was pool tape pln pap rwd rw) {a n : Int} (ha : InR a) (hn : InR n) : RUNM G l (d + 2) mX11_row [.ref x, .int (J a), .int (J n)] h (fun v h' => v = some (.int (J (rowV a n))) ∧ ((¬ rowDo a n ∧ h' = h) ∨ (rowDo a n ∧ isM h' x (mFs x f4 f6 f8 f9 f10 f11 f12 f13 f14 f16 f18 s) m kp was pool tape pln pap (updI rwd a.toNat n) (zrF rw (40 * a.toNat) 40) ∧ Same (mBlk x) h h'))) := by
  dsimp only [mFs] at hB
  refine RUNM.of (by decide +kernel) (Nat.le_of_ble_eq_true rfl) ?_
  refine r_iload_n (pc := 0) dX11_row_0 rfl ?_
  refine r_callS1 (pc := 1) dX11_row_1 qX11_isRow kX11_304 sX11_isRow (Nat.le_of_ble_eq_true rfl) (m_isRow d ha) (fun v_1 h_1 q_1 => ?_)
  obtain ⟨rfl, rfl⟩ := q_1
  refine rj_if_ne (pc := 4) (tgt := 9) dX11_row_4 (by decide) (by first | assumption | exact b01_r | exact bz_r | omega | (constructor <;> omega) | exact hM _ | exact hPo _ | exact hTa _ | exact hRo _) (fun c_4 => ?_) (fun c_4 => ?_)
  · try simp only [b01_0, bz_0, Classical.not_not] at c_4
    refine r_iload_n (pc := 9) dX11_row_9 rfl ?_
    refine rj_bipush (pc := 10) dX11_row_10 (by decide +kernel) ?_
    refine rj_icmp_le (pc := 12) (tgt := 18) dX11_row_12 (by decide) (by first | assumption | exact b01_r | exact bz_r | omega | (constructor <;> omega) | exact hM _ | exact hPo _ | exact hTa _ | exact hRo _) (by first | assumption | exact b01_r | exact bz_r | omega | (constructor <;> omega) | exact hM _ | exact hPo _ | exact hTa _ | exact hRo _) (fun c_12 => ?_) (fun c_12 => ?_)
    · refine r_iload_n (pc := 18) dX11_row_18 rfl ?_
      refine rj_if_ge (pc := 19) (tgt := 25) dX11_row_19 (by decide) (by first | assumption | exact b01_r | exact bz_r | omega | (constructor <;> omega) | exact hM _ | exact hPo _ | exact hTa _ | exact hRo _) (fun c_19 => ?_) (fun c_19 => ?_)
      · refine r_aload_n (pc := 25) dX11_row_25 rfl (by first | rfl | exact isRefV_rf _) ?_
        refine rm_getf (pc := 26) dX11_row_26 fX11_36 (by assumption) rfl ?_
        refine r_iload_n (pc := 29) dX11_row_29 rfl ?_
        refine r_iload_n (pc := 30) dX11_row_30 rfl ?_
        first | refine rm_iast7 (pc := 31) (j := a.toNat) dX11_row_31 (by assumption) (by first | assumption | exact b01_r | exact bz_r | omega | (constructor <;> omega) | exact hM _ | exact hPo _ | exact hTa _ | exact hRo _) (by first | assumption | exact b01_r | exact bz_r | omega | (constructor <;> omega) | exact hM _ | exact hPo _ | exact hTa _ | exact hRo _) (by first | assumption | exact b01_r | exact bz_r | omega | (constructor <;> omega) | exact hM _ | exact hPo _ | exact hTa _ | exact hRo _) (by omega) (fun h_31 hB_31 hS_31 => ?_)
        refine rj_iconst (pc := 32) dX11_row_32 ?_
        refine r_istore_n (pc := 33) dX11_row_33 (Nat.le_of_ble_eq_true rfl) ?_
        dsimp only [lsSt, List.set, mLs, mEnt]
        have z := L_row (G := G) (l := l) (rw := rw) (d + 2) (n := n) c_4 40 0 h_31 (by rw [zrF_0]; exact hB_31) rfl
        exact z.mono (fun v h' g => ⟨by rw [g.1]; unfold rowV; rw [if_pos c_4, if_pos (by omega), if_pos (by omega)], Or.inr ⟨⟨c_4, by omega, by omega⟩, g.2.1, hS_31.trans g.2.2⟩⟩)
      · refine rj_bipush (pc := 22) dX11_row_22 (by decide +kernel) ?_
        refine r_ireturn (pc := 24) .int dX11_row_24 rfl (by first | rfl | assumption) ?_
        first
        | exact ⟨by unfold rowV; rw [if_neg c_4], Or.inl ⟨fun g => c_4 g.1, rfl⟩⟩
        | exact ⟨by unfold rowV; rw [if_pos c_4, if_neg (by omega)], Or.inl ⟨fun g => by have := g.2; omega, rfl⟩⟩
        | exact ⟨by unfold rowV; rw [if_pos c_4, if_pos (by omega), if_neg (by omega)], Or.inl ⟨fun g => by have := g.2; omega, rfl⟩⟩
    · refine rj_bipush (pc := 15) dX11_row_15 (by decide +kernel) ?_
      refine r_ireturn (pc := 17) .int dX11_row_17 rfl (by first | rfl | assumption) ?_
      first
      | exact ⟨by unfold rowV; rw [if_neg c_4], Or.inl ⟨fun g => c_4 g.1, rfl⟩⟩
      | exact ⟨by unfold rowV; rw [if_pos c_4, if_neg (by omega)], Or.inl ⟨fun g => by have := g.2; omega, rfl⟩⟩
      | exact ⟨by unfold rowV; rw [if_pos c_4, if_pos (by omega), if_neg (by omega)], Or.inl ⟨fun g => by have := g.2; omega, rfl⟩⟩
  · try simp only [b01_0, bz_0, Classical.not_not] at c_4
    refine rj_iconst (pc := 7) dX11_row_7 ?_
    refine r_ireturn (pc := 8) .int dX11_row_8 rfl (by first | rfl | assumption) ?_
    first
    | exact ⟨by unfold rowV; rw [if_neg c_4], Or.inl ⟨fun g => c_4 g.1, rfl⟩⟩
    | exact ⟨by unfold rowV; rw [if_pos c_4, if_neg (by omega)], Or.inl ⟨fun g => by have := g.2; omega, rfl⟩⟩
    | exact ⟨by unfold rowV; rw [if_pos c_4, if_pos (by omega), if_neg (by omega)], Or.inl ⟨fun g => by have := g.2; omega, rfl⟩⟩
end mg_43
section mg_44
/-! ===== contracts of the reference: ready, pooled ===== -/
def rdB (m : Nat → Int) (i j : Nat) : Bool := readyB m j && (decide (¬ j = i) && decide (aheadP m j i))
def rdO (m : Nat → Int) (T : Nat) (k : Int) : Nat → Nat → Int
  | 0, _ => -5
  | n + 1, i => if readyB m i = true ∧ cnt (rdB m i) T = k then (i : Int) else rdO m T k n (i + 1)
def readyV (m : Nat → Int) (T : Nat) (k : Int) : Int := if k < 0 then -1 else rdO m T k T 0
set_option maxHeartbeats 4000000 in
set_option maxRecDepth 100000 in
theorem L_readyI {G : mG} {l : Launch} (d : Nat) {h : mH} {x s : Nat} {f4 f6 f8 f9 f10 f11 f12 f13 f14 f16 f18 : Int} {m kp was pool tape pln pap rwd rw : Nat → Int}(hB : isM h x (mFs x f4 f6 f8 f9 f10 f11 f12 f13 f14 f16 f18 s) m kp was pool tape pln pap rwd rw) (hM : ∀ q, InR (m q)) {T : Nat} (hT : m 3 = (T : Int)) (hT2 : T ≤ 10) (hP : ∀ t, t < T → -99 ≤ m (1609 + 72 * t) ∧ m (1609 + 72 * t) ≤ 99) {k : Int} (hk : InR k) {Q : Option Value → mH → Prop} {i : Nat} (hi : i < T) (K : RUN G l (d + 3) mX11_ready 73 [some (.ref x), some (.int (J k)), some (.int (J (i : Int))), some (.int (J (cnt (rdB m i) T))), some (.int (J ((T : Int))))] [] h Q) : ∀ n j : Nat, j + n = T → RUN G l (d + 3) mX11_ready 23 [some (.ref x), some (.int (J k)), some (.int (J (i : Int))), some (.int (J (cnt (rdB m i) j))), some (.int (J ((j : Int))))] [] h Q := by
  have hB0 := hB
  dsimp only [mFs] at hB
  have r3 := hM 3
  intro n
  induction n with
  | zero =>
    intro j hj
    refine r_iload (pc := 23) dX11_ready_23 rfl ?_
    refine r_aload_n (pc := 25) dX11_ready_25 rfl (by first | rfl | exact isRefV_rf _) ?_
    refine rm_getf (pc := 26) dX11_ready_26 fX11_11 (by assumption) rfl ?_
    refine rj_iconst (pc := 29) dX11_ready_29 ?_
    refine rj_iald (pc := 30) (j := 3) dX11_ready_30 (by first | exact isM.g0 (by assumption) | exact isM.g3 (by assumption) | exact isM.g4 (by assumption) | exact isM.g8 (by assumption) | exact isM.g7 (by assumption) | exact isM.g6 (by assumption) | exact isM.g5 (by assumption) | exact isM.g1 (by assumption) | exact isM.g2 (by assumption)) (by first | assumption | exact b01_r | exact bz_r | omega | (constructor <;> omega) | exact hM _ | exact hPo _ | exact hTa _ | exact hRo _) (by first | assumption | exact b01_r | exact bz_r | omega | (constructor <;> omega) | exact hM _ | exact hPo _ | exact hTa _ | exact hRo _) (by first | assumption | exact b01_r | exact bz_r | omega | (constructor <;> omega) | exact hM _ | exact hPo _ | exact hTa _ | exact hRo _) rfl ?_
    refine rj_icmp_ge (pc := 31) (tgt := 73) dX11_ready_31 (by decide) (by first | assumption | exact b01_r | exact bz_r | omega | (constructor <;> omega) | exact hM _ | exact hPo _ | exact hTa _ | exact hRo _) (by first | assumption | exact b01_r | exact bz_r | omega | (constructor <;> omega) | exact hM _ | exact hPo _ | exact hTa _ | exact hRo _) (fun c_31 => ?_) (fun c_31 => ?_)
    · have e : j = T := by omega
      subst e
      exact K
    · exfalso; omega
  | succ n ih =>
    intro j hj
    refine r_iload (pc := 23) dX11_ready_23 rfl ?_
    refine r_aload_n (pc := 25) dX11_ready_25 rfl (by first | rfl | exact isRefV_rf _) ?_
    refine rm_getf (pc := 26) dX11_ready_26 fX11_11 (by assumption) rfl ?_
    refine rj_iconst (pc := 29) dX11_ready_29 ?_
    refine rj_iald (pc := 30) (j := 3) dX11_ready_30 (by first | exact isM.g0 (by assumption) | exact isM.g3 (by assumption) | exact isM.g4 (by assumption) | exact isM.g8 (by assumption) | exact isM.g7 (by assumption) | exact isM.g6 (by assumption) | exact isM.g5 (by assumption) | exact isM.g1 (by assumption) | exact isM.g2 (by assumption)) (by first | assumption | exact b01_r | exact bz_r | omega | (constructor <;> omega) | exact hM _ | exact hPo _ | exact hTa _ | exact hRo _) (by first | assumption | exact b01_r | exact bz_r | omega | (constructor <;> omega) | exact hM _ | exact hPo _ | exact hTa _ | exact hRo _) (by first | assumption | exact b01_r | exact bz_r | omega | (constructor <;> omega) | exact hM _ | exact hPo _ | exact hTa _ | exact hRo _) rfl ?_
    refine rj_icmp_ge (pc := 31) (tgt := 73) dX11_ready_31 (by decide) (by first | assumption | exact b01_r | exact bz_r | omega | (constructor <;> omega) | exact hM _ | exact hPo _ | exact hTa _ | exact hRo _) (by first | assumption | exact b01_r | exact bz_r | omega | (constructor <;> omega) | exact hM _ | exact hPo _ | exact hTa _ | exact hRo _) (fun c_31 => ?_) (fun c_31 => ?_)
    · exfalso; omega
    · refine r_iload_n (pc := 34) dX11_ready_34 rfl ?_
      refine r_aload_n (pc := 35) dX11_ready_35 rfl (by first | rfl | exact isRefV_rf _) ?_
      refine r_iload (pc := 36) dX11_ready_36 rfl ?_
      refine r_callV1 (pc := 38) dX11_ready_38 qX11_isReady kX11_183 vX11_isReady (by exact isM.gx (by assumption)) rfl rfl (Nat.le_of_ble_eq_true rfl) (m_isReady (d + 1) hB0 hM (by omega) (by omega)) (fun v_38 h_38 q_38 => ?_)
      obtain ⟨rfl, rfl⟩ := q_38
      refine rj_if_eq (pc := 41) (tgt := 64) dX11_ready_41 (by decide) (by first | assumption | exact b01_r | exact bz_r | omega | (constructor <;> omega) | exact hM _ | exact hPo _ | exact hTa _ | exact hRo _) (fun c_41 => ?_) (fun c_41 => ?_)
      · try simp only [b01_0, bz_0, Classical.not_not] at c_41
        refine rj_iconst (pc := 64) dX11_ready_64 ?_
        refine rj_iadd (pc := 65) dX11_ready_65 ?_
        refine r_istore_n (pc := 66) dX11_ready_66 (Nat.le_of_ble_eq_true rfl) ?_
        dsimp only [lsSt, List.set, mLs, mEnt]
        refine rj_iinc (pc := 67) dX11_ready_67 (Nat.le_of_ble_eq_true rfl) rfl ?_
        dsimp only [lsSt, List.set, mLs, mEnt]
        refine r_goto (pc := 70) (tgt := 23) dX11_ready_70 (by decide) ?_
        have z := ih (j + 1) (by omega)
        rw [← cnt_f (p := rdB m i) (n := j) (by unfold rdB; rw [show readyB m j = false from by simp only [readyB, decide_eq_false_iff_not]; rw [n_ready] at c_41; exact c_41]; rfl)] at z
        exact z
      · try simp only [b01_0, bz_0, Classical.not_not] at c_41
        refine r_iload (pc := 44) dX11_ready_44 rfl ?_
        refine r_iload_n (pc := 46) dX11_ready_46 rfl ?_
        refine rj_icmp_eq (pc := 47) (tgt := 64) dX11_ready_47 (by decide) (by first | assumption | exact b01_r | exact bz_r | omega | (constructor <;> omega) | exact hM _ | exact hPo _ | exact hTa _ | exact hRo _) (by first | assumption | exact b01_r | exact bz_r | omega | (constructor <;> omega) | exact hM _ | exact hPo _ | exact hTa _ | exact hRo _) (fun c_47 => ?_) (fun c_47 => ?_)
        · refine rj_iconst (pc := 64) dX11_ready_64 ?_
          refine rj_iadd (pc := 65) dX11_ready_65 ?_
          refine r_istore_n (pc := 66) dX11_ready_66 (Nat.le_of_ble_eq_true rfl) ?_
          dsimp only [lsSt, List.set, mLs, mEnt]
          refine rj_iinc (pc := 67) dX11_ready_67 (Nat.le_of_ble_eq_true rfl) rfl ?_
          dsimp only [lsSt, List.set, mLs, mEnt]
          refine r_goto (pc := 70) (tgt := 23) dX11_ready_70 (by decide) ?_
          have z := ih (j + 1) (by omega)
          rw [← cnt_f (p := rdB m i) (n := j) (by unfold rdB; rw [decide_eq_false (fun g : ¬ j = i => g (by omega))]; simp)] at z
          exact z
        · refine r_aload_n (pc := 50) dX11_ready_50 rfl (by first | rfl | exact isRefV_rf _) ?_
          refine r_iload (pc := 51) dX11_ready_51 rfl ?_
          refine r_iload_n (pc := 53) dX11_ready_53 rfl ?_
          refine r_callV2 (pc := 54) dX11_ready_54 qX11_isAhead kX11_201 vX11_isAhead (by exact isM.gx (by assumption)) rfl rfl (Nat.le_of_ble_eq_true rfl) (m_isAhead (d + 1) hB0 hM (a := j) (b := i) (by omega) (by omega) (hP j (by omega)) (hP i (by omega))) (fun v_54 h_54 q_54 => ?_)
          obtain ⟨rfl, rfl⟩ := q_54
          refine rj_if_eq (pc := 57) (tgt := 64) dX11_ready_57 (by decide) (by first | assumption | exact b01_r | exact bz_r | omega | (constructor <;> omega) | exact hM _ | exact hPo _ | exact hTa _ | exact hRo _) (fun c_57 => ?_) (fun c_57 => ?_)
          · try simp only [b01_0, bz_0, Classical.not_not] at c_57
            refine rj_iconst (pc := 64) dX11_ready_64 ?_
            refine rj_iadd (pc := 65) dX11_ready_65 ?_
            refine r_istore_n (pc := 66) dX11_ready_66 (Nat.le_of_ble_eq_true rfl) ?_
            dsimp only [lsSt, List.set, mLs, mEnt]
            refine rj_iinc (pc := 67) dX11_ready_67 (Nat.le_of_ble_eq_true rfl) rfl ?_
            dsimp only [lsSt, List.set, mLs, mEnt]
            refine r_goto (pc := 70) (tgt := 23) dX11_ready_70 (by decide) ?_
            have z := ih (j + 1) (by omega)
            rw [← cnt_f (p := rdB m i) (n := j) (by unfold rdB; rw [decide_eq_false c_57]; simp)] at z
            exact z
          · try simp only [b01_0, bz_0, Classical.not_not] at c_57
            refine rj_iconst (pc := 60) dX11_ready_60 ?_
            refine r_goto (pc := 61) (tgt := 65) dX11_ready_61 (by decide) ?_
            refine rj_iadd (pc := 65) dX11_ready_65 ?_
            refine r_istore_n (pc := 66) dX11_ready_66 (Nat.le_of_ble_eq_true rfl) ?_
            dsimp only [lsSt, List.set, mLs, mEnt]
            refine rj_iinc (pc := 67) dX11_ready_67 (Nat.le_of_ble_eq_true rfl) rfl ?_
            dsimp only [lsSt, List.set, mLs, mEnt]
            refine r_goto (pc := 70) (tgt := 23) dX11_ready_70 (by decide) ?_
            have z := ih (j + 1) (by omega)
            rw [← cnt_t (p := rdB m i) (n := j) (by unfold rdB; rw [show readyB m j = true from by simp only [readyB, decide_eq_true_eq]; rw [n_ready] at c_41; exact c_41, decide_eq_true (show ¬ j = i by omega), decide_eq_true c_57]; rfl)] at z
            exact z
set_option maxHeartbeats 4000000 in
set_option maxRecDepth 100000 in
theorem L_ready {G : mG} {l : Launch} (d : Nat) {h : mH} {x s : Nat} {f4 f6 f8 f9 f10 f11 f12 f13 f14 f16 f18 : Int} {m kp was pool tape pln pap rwd rw : Nat → Int}(hB : isM h x (mFs x f4 f6 f8 f9 f10 f11 f12 f13 f14 f16 f18 s) m kp was pool tape pln pap rwd rw) (hM : ∀ q, InR (m q)) {T : Nat} (hT : m 3 = (T : Int)) (hT2 : T ≤ 10) (hP : ∀ t, t < T → -99 ≤ m (1609 + 72 * t) ∧ m (1609 + 72 * t) ≤ 99) {k : Int} (hk : InR k) : ∀ (n i : Nat) (e1 e2 : Option Value), i + n = T → RUN G l (d + 3) mX11_ready 8 [some (.ref x), some (.int (J k)), some (.int (J (i : Int))), e1, e2] [] h (fun v h' => v = some (.int (J (rdO m T k n i))) ∧ h' = h) := by
  have hB0 := hB
  dsimp only [mFs] at hB
  have r3 := hM 3
  intro n
  induction n with
  | zero =>
    intro i e1 e2 hi
    refine r_iload_n (pc := 8) dX11_ready_8 rfl ?_
    refine r_aload_n (pc := 9) dX11_ready_9 rfl (by first | rfl | exact isRefV_rf _) ?_
    refine rm_getf (pc := 10) dX11_ready_10 fX11_11 (by assumption) rfl ?_
    refine rj_iconst (pc := 13) dX11_ready_13 ?_
    refine rj_iald (pc := 14) (j := 3) dX11_ready_14 (by first | exact isM.g0 (by assumption) | exact isM.g3 (by assumption) | exact isM.g4 (by assumption) | exact isM.g8 (by assumption) | exact isM.g7 (by assumption) | exact isM.g6 (by assumption) | exact isM.g5 (by assumption) | exact isM.g1 (by assumption) | exact isM.g2 (by assumption)) (by first | assumption | exact b01_r | exact bz_r | omega | (constructor <;> omega) | exact hM _ | exact hPo _ | exact hTa _ | exact hRo _) (by first | assumption | exact b01_r | exact bz_r | omega | (constructor <;> omega) | exact hM _ | exact hPo _ | exact hTa _ | exact hRo _) (by first | assumption | exact b01_r | exact bz_r | omega | (constructor <;> omega) | exact hM _ | exact hPo _ | exact hTa _ | exact hRo _) rfl ?_
    refine rj_icmp_ge (pc := 15) (tgt := 94) dX11_ready_15 (by decide) (by first | assumption | exact b01_r | exact bz_r | omega | (constructor <;> omega) | exact hM _ | exact hPo _ | exact hTa _ | exact hRo _) (by first | assumption | exact b01_r | exact bz_r | omega | (constructor <;> omega) | exact hM _ | exact hPo _ | exact hTa _ | exact hRo _) (fun c_15 => ?_) (fun c_15 => ?_)
    · refine rj_bipush (pc := 94) dX11_ready_94 (by decide +kernel) ?_
      refine r_ireturn (pc := 96) .int dX11_ready_96 rfl (by first | rfl | assumption) ?_
      exact ⟨rfl, rfl⟩
    · exfalso; omega
  | succ n ih =>
    intro i e1 e2 hi
    have rc := cnt_r (rdB m i) T
    refine r_iload_n (pc := 8) dX11_ready_8 rfl ?_
    refine r_aload_n (pc := 9) dX11_ready_9 rfl (by first | rfl | exact isRefV_rf _) ?_
    refine rm_getf (pc := 10) dX11_ready_10 fX11_11 (by assumption) rfl ?_
    refine rj_iconst (pc := 13) dX11_ready_13 ?_
    refine rj_iald (pc := 14) (j := 3) dX11_ready_14 (by first | exact isM.g0 (by assumption) | exact isM.g3 (by assumption) | exact isM.g4 (by assumption) | exact isM.g8 (by assumption) | exact isM.g7 (by assumption) | exact isM.g6 (by assumption) | exact isM.g5 (by assumption) | exact isM.g1 (by assumption) | exact isM.g2 (by assumption)) (by first | assumption | exact b01_r | exact bz_r | omega | (constructor <;> omega) | exact hM _ | exact hPo _ | exact hTa _ | exact hRo _) (by first | assumption | exact b01_r | exact bz_r | omega | (constructor <;> omega) | exact hM _ | exact hPo _ | exact hTa _ | exact hRo _) (by first | assumption | exact b01_r | exact bz_r | omega | (constructor <;> omega) | exact hM _ | exact hPo _ | exact hTa _ | exact hRo _) rfl ?_
    refine rj_icmp_ge (pc := 15) (tgt := 94) dX11_ready_15 (by decide) (by first | assumption | exact b01_r | exact bz_r | omega | (constructor <;> omega) | exact hM _ | exact hPo _ | exact hTa _ | exact hRo _) (by first | assumption | exact b01_r | exact bz_r | omega | (constructor <;> omega) | exact hM _ | exact hPo _ | exact hTa _ | exact hRo _) (fun c_15 => ?_) (fun c_15 => ?_)
    · refine rj_bipush (pc := 94) dX11_ready_94 (by decide +kernel) ?_
      refine r_ireturn (pc := 96) .int dX11_ready_96 rfl (by first | rfl | assumption) ?_
      exfalso; omega
    · refine rj_iconst (pc := 18) dX11_ready_18 ?_
      refine r_istore_n (pc := 19) dX11_ready_19 (Nat.le_of_ble_eq_true rfl) ?_
      dsimp only [lsSt, List.set, mLs, mEnt]
      refine rj_iconst (pc := 20) dX11_ready_20 ?_
      refine r_istore (pc := 21) dX11_ready_21 (Nat.le_of_ble_eq_true rfl) ?_
      dsimp only [lsSt, List.set, mLs, mEnt]
      have K : RUN G l (d + 3) mX11_ready 73 [some (.ref x), some (.int (J k)), some (.int (J (i : Int))), some (.int (J (cnt (rdB m i) T))), some (.int (J ((T : Int))))] [] h (fun v h' => v = some (.int (J (rdO m T k (n + 1) i))) ∧ h' = h) := by
            refine r_aload_n (pc := 73) dX11_ready_73 rfl (by first | rfl | exact isRefV_rf _) ?_
            refine r_iload_n (pc := 74) dX11_ready_74 rfl ?_
            refine r_callV1 (pc := 75) dX11_ready_75 qX11_isReady kX11_183 vX11_isReady (by exact isM.gx (by assumption)) rfl rfl (Nat.le_of_ble_eq_true rfl) (m_isReady (d + 1) hB0 hM (by omega) (by omega)) (fun v_75 h_75 q_75 => ?_)
            obtain ⟨rfl, rfl⟩ := q_75
            refine rj_if_eq (pc := 78) (tgt := 88) dX11_ready_78 (by decide) (by first | assumption | exact b01_r | exact bz_r | omega | (constructor <;> omega) | exact hM _ | exact hPo _ | exact hTa _ | exact hRo _) (fun c_78 => ?_) (fun c_78 => ?_)
            · try simp only [b01_0, bz_0, Classical.not_not] at c_78
              refine rj_iinc (pc := 88) dX11_ready_88 (Nat.le_of_ble_eq_true rfl) rfl ?_
              dsimp only [lsSt, List.set, mLs, mEnt]
              refine r_goto (pc := 91) (tgt := 8) dX11_ready_91 (by decide) ?_
              have z := ih (i + 1) (some (.int (J (cnt (rdB m i) T)))) (some (.int (J (T : Int)))) (by omega)
              rw [rdO, if_neg (fun g => c_78 (by have := g.1; simp only [readyB, decide_eq_true_eq] at this; rw [n_ready]; exact this))]
              exact z
            · try simp only [b01_0, bz_0, Classical.not_not] at c_78
              refine r_iload_n (pc := 81) dX11_ready_81 rfl ?_
              refine r_iload_n (pc := 82) dX11_ready_82 rfl ?_
              refine rj_icmp_ne (pc := 83) (tgt := 88) dX11_ready_83 (by decide) (by first | assumption | exact b01_r | exact bz_r | omega | (constructor <;> omega) | exact hM _ | exact hPo _ | exact hTa _ | exact hRo _) (by first | assumption | exact b01_r | exact bz_r | omega | (constructor <;> omega) | exact hM _ | exact hPo _ | exact hTa _ | exact hRo _) (fun c_83 => ?_) (fun c_83 => ?_)
              · refine rj_iinc (pc := 88) dX11_ready_88 (Nat.le_of_ble_eq_true rfl) rfl ?_
                dsimp only [lsSt, List.set, mLs, mEnt]
                refine r_goto (pc := 91) (tgt := 8) dX11_ready_91 (by decide) ?_
                have z := ih (i + 1) (some (.int (J (cnt (rdB m i) T)))) (some (.int (J (T : Int)))) (by omega)
                rw [rdO, if_neg (fun g => c_83 g.2)]
                exact z
              · refine r_iload_n (pc := 86) dX11_ready_86 rfl ?_
                refine r_ireturn (pc := 87) .int dX11_ready_87 rfl (by first | rfl | assumption) ?_
                exact ⟨by rw [rdO, if_pos ⟨by simp only [readyB, decide_eq_true_eq]; rw [n_ready] at c_78; exact c_78, c_83⟩], rfl⟩
      exact L_readyI d hB0 hM hT hT2 hP hk (i := i) (by omega) K T 0 (by omega)
set_option maxHeartbeats 4000000 in
set_option maxRecDepth 100000 in
theorem m_ready {G : mG} {l : Launch} (d : Nat) {h : mH} {x s : Nat} {f4 f6 f8 f9 f10 f11 f12 f13 f14 f16 f18 : Int} {m kp was pool tape pln pap rwd rw : Nat → Int}(hB : isM h x (mFs x f4 f6 f8 f9 f10 f11 f12 f13 f14 f16 f18 s) m kp was pool tape pln pap rwd rw) (hM : ∀ q, InR (m q)) {T : Nat} (hT : m 3 = (T : Int)) (hT2 : T ≤ 10) (hP : ∀ t, t < T → -99 ≤ m (1609 + 72 * t) ∧ m (1609 + 72 * t) ≤ 99) {k : Int} (hk : InR k) : RUNM G l (d + 3) mX11_ready [.ref x, .int (J k)] h (fun v h' => v = some (.int (J (readyV m T k))) ∧ h' = h) := by
  have hB0 := hB
  dsimp only [mFs] at hB
  refine RUNM.of (by decide +kernel) (Nat.le_of_ble_eq_true rfl) ?_
  refine r_iload_n (pc := 0) dX11_ready_0 rfl ?_
  refine rj_if_ge (pc := 1) (tgt := 6) dX11_ready_1 (by decide) (by first | assumption | exact b01_r | exact bz_r | omega | (constructor <;> omega) | exact hM _ | exact hPo _ | exact hTa _ | exact hRo _) (fun c_1 => ?_) (fun c_1 => ?_)
  · refine rj_iconst (pc := 6) dX11_ready_6 ?_
    refine r_istore_n (pc := 7) dX11_ready_7 (Nat.le_of_ble_eq_true rfl) ?_
    dsimp only [lsSt, List.set, mLs, mEnt]
    rw [show readyV m T k = rdO m T k T 0 by unfold readyV; rw [if_neg (by omega)]]
    exact L_ready d hB0 hM hT hT2 hP hk T 0 _ _ (by omega)
  · refine rj_iconst (pc := 4) dX11_ready_4 ?_
    refine r_ireturn (pc := 5) .int dX11_ready_5 rfl (by first | rfl | assumption) ?_
    exact ⟨by unfold readyV; rw [if_pos (by omega)], rfl⟩
def plF (pool tape : Nat → Int) (p a k : Nat) : Nat → Int := fun q => if p ≤ q ∧ q < p + k then tape (a + (q - p)) else pool q
theorem plF_0 (pool tape : Nat → Int) (p a : Nat) : plF pool tape p a 0 = pool := by funext q; unfold plF; rw [if_neg (by omega)]
theorem plF_s (pool tape : Nat → Int) (p a k : Nat) : updI (plF pool tape p a k) (p + k) (tape (a + k)) = plF pool tape p a (k + 1) := by
  funext q
  unfold updI plF
  by_cases h : q = p + k
  · rw [if_pos h, if_pos (by omega), h, show a + (p + k - p) = a + k by omega]
  · rw [if_neg h]
    by_cases h2 : p ≤ q ∧ q < p + k
    · rw [if_pos h2, if_pos (by omega)]
    · rw [if_neg h2, if_neg (by omega)]
def pooledP (pool tape : Nat → Int) (p a b : Nat) : Nat → Int := updI (plF pool tape p a (b - a)) (p + (b - a)) 0
set_option maxHeartbeats 4000000 in
set_option maxRecDepth 100000 in
theorem L_pooled {G : mG} {l : Launch} (d : Nat) {x s : Nat} {f4 f6 f8 f9 f10 f11 f12 f13 f14 f16 f18 : Int} {m kp was pool tape pln pap rwd rw : Nat → Int} {a b p : Nat} (hTa : ∀ q, InR (tape q)) (hab : a ≤ b) (hb : b ≤ 120) (hp : p + (b - a) < 12342) (h8 : m 8 = (p : Int)) : ∀ (j k : Nat) (h : mH), isM h x (mFs x f4 f6 f8 f9 f10 f11 f12 f13 f14 f16 f18 s) m kp was (plF pool tape p a k) tape pln pap rwd rw → a + k + j = b → RUN G l d mX11_pooled 11 [some (.ref x), some (.int (J (a : Int))), some (.int (J (b : Int))), some (.int (J (p : Int))), some (.int (J ((a + k : Nat) : Int)))] [] h (fun v h' => v = some (.int (J (p : Int))) ∧ isM h' x (mFs x f4 f6 f8 f9 f10 f11 f12 f13 f14 f16 f18 s) (updI m 8 ((p : Int) + (b - a : Nat) + 1)) kp was (pooledP pool tape p a b) tape pln pap rwd rw ∧ Same (mBlk x) h h') := by
  intro j
  induction j with
  | zero =>
    intro k h hB hk
    dsimp only [mFs] at hB
    have ek : k = b - a := by omega
    refine r_iload (pc := 11) dX11_pooled_11 rfl ?_
    refine r_iload_n (pc := 13) dX11_pooled_13 rfl ?_
    refine rj_icmp_ge (pc := 14) (tgt := 41) dX11_pooled_14 (by decide) (by first | assumption | exact b01_r | exact bz_r | omega | (constructor <;> omega) | exact hM _ | exact hPo _ | exact hTa _ | exact hRo _) (by first | assumption | exact b01_r | exact bz_r | omega | (constructor <;> omega) | exact hM _ | exact hPo _ | exact hTa _ | exact hRo _) (fun c_14 => ?_) (fun c_14 => ?_)
    · refine r_aload_n (pc := 41) dX11_pooled_41 rfl (by first | rfl | exact isRefV_rf _) ?_
      refine rm_getf (pc := 42) dX11_pooled_42 fX11_21 (by assumption) rfl ?_
      refine r_iload_n (pc := 45) dX11_pooled_45 rfl ?_
      refine r_iload_n (pc := 46) dX11_pooled_46 rfl ?_
      refine rj_iadd (pc := 47) dX11_pooled_47 ?_
      refine r_iload_n (pc := 48) dX11_pooled_48 rfl ?_
      refine rj_isub (pc := 49) dX11_pooled_49 ?_
      refine rj_iconst (pc := 50) dX11_pooled_50 ?_
      first | refine rm_iast3 (pc := 51) (j := p + (b - a)) dX11_pooled_51 (by assumption) (by first | assumption | exact b01_r | exact bz_r | omega | (constructor <;> omega) | exact hM _ | exact hPo _ | exact hTa _ | exact hRo _) (by first | assumption | exact b01_r | exact bz_r | omega | (constructor <;> omega) | exact hM _ | exact hPo _ | exact hTa _ | exact hRo _) (by first | assumption | exact b01_r | exact bz_r | omega | (constructor <;> omega) | exact hM _ | exact hPo _ | exact hTa _ | exact hRo _) (by omega) (fun h_51 hB_51 hS_51 => ?_)
      refine r_aload_n (pc := 52) dX11_pooled_52 rfl (by first | rfl | exact isRefV_rf _) ?_
      refine rm_getf (pc := 53) dX11_pooled_53 fX11_11 (by assumption) rfl ?_
      refine rj_bipush (pc := 56) dX11_pooled_56 (by decide +kernel) ?_
      refine r_dup2 (pc := 58) dX11_pooled_58 rfl rfl ?_
      refine rj_iald (pc := 59) (j := 8) dX11_pooled_59 (by first | exact isM.g0 (by assumption) | exact isM.g3 (by assumption) | exact isM.g4 (by assumption) | exact isM.g8 (by assumption) | exact isM.g7 (by assumption) | exact isM.g6 (by assumption) | exact isM.g5 (by assumption) | exact isM.g1 (by assumption) | exact isM.g2 (by assumption)) (by first | assumption | exact b01_r | exact bz_r | omega | (constructor <;> omega) | exact hM _ | exact hPo _ | exact hTa _ | exact hRo _) (by first | assumption | exact b01_r | exact bz_r | omega | (constructor <;> omega) | exact hM _ | exact hPo _ | exact hTa _ | exact hRo _) (by first | assumption | exact b01_r | exact bz_r | omega | (constructor <;> omega) | exact hM _ | exact hPo _ | exact hTa _ | exact hRo _) (by omega) ?_
      refine r_iload_n (pc := 60) dX11_pooled_60 rfl ?_
      refine r_iload_n (pc := 61) dX11_pooled_61 rfl ?_
      refine rj_isub (pc := 62) dX11_pooled_62 ?_
      refine rj_iconst (pc := 63) dX11_pooled_63 ?_
      refine rj_iadd (pc := 64) dX11_pooled_64 ?_
      refine rj_iadd (pc := 65) dX11_pooled_65 ?_
      first | refine rm_iast0 (pc := 66) (j := 8) dX11_pooled_66 (by assumption) (by first | assumption | exact b01_r | exact bz_r | omega | (constructor <;> omega) | exact hM _ | exact hPo _ | exact hTa _ | exact hRo _) (by first | assumption | exact b01_r | exact bz_r | omega | (constructor <;> omega) | exact hM _ | exact hPo _ | exact hTa _ | exact hRo _) (by first | assumption | exact b01_r | exact bz_r | omega | (constructor <;> omega) | exact hM _ | exact hPo _ | exact hTa _ | exact hRo _) (by omega) (fun h_66 hB_66 hS_66 => ?_)
      refine r_iload_n (pc := 67) dX11_pooled_67 rfl ?_
      refine r_ireturn (pc := 68) .int dX11_pooled_68 rfl (by first | rfl | assumption) ?_
      subst ek
      rw [h8, show (p : Int) + ((b : Int) - (a : Int) + 1) = (p : Int) + (b - a : Nat) + 1 by omega] at hB_66
      exact ⟨rfl, hB_66, hS_51.trans hS_66⟩
    · exfalso; omega
  | succ j ih =>
    intro k h hB hk
    dsimp only [mFs] at hB
    refine r_iload (pc := 11) dX11_pooled_11 rfl ?_
    refine r_iload_n (pc := 13) dX11_pooled_13 rfl ?_
    refine rj_icmp_ge (pc := 14) (tgt := 41) dX11_pooled_14 (by decide) (by first | assumption | exact b01_r | exact bz_r | omega | (constructor <;> omega) | exact hM _ | exact hPo _ | exact hTa _ | exact hRo _) (by first | assumption | exact b01_r | exact bz_r | omega | (constructor <;> omega) | exact hM _ | exact hPo _ | exact hTa _ | exact hRo _) (fun c_14 => ?_) (fun c_14 => ?_)
    · refine r_aload_n (pc := 41) dX11_pooled_41 rfl (by first | rfl | exact isRefV_rf _) ?_
      refine rm_getf (pc := 42) dX11_pooled_42 fX11_21 (by assumption) rfl ?_
      refine r_iload_n (pc := 45) dX11_pooled_45 rfl ?_
      refine r_iload_n (pc := 46) dX11_pooled_46 rfl ?_
      refine rj_iadd (pc := 47) dX11_pooled_47 ?_
      refine r_iload_n (pc := 48) dX11_pooled_48 rfl ?_
      refine rj_isub (pc := 49) dX11_pooled_49 ?_
      refine rj_iconst (pc := 50) dX11_pooled_50 ?_
      first | refine rm_iast3 (pc := 51) (j := p + (b - a)) dX11_pooled_51 (by assumption) (by first | assumption | exact b01_r | exact bz_r | omega | (constructor <;> omega) | exact hM _ | exact hPo _ | exact hTa _ | exact hRo _) (by first | assumption | exact b01_r | exact bz_r | omega | (constructor <;> omega) | exact hM _ | exact hPo _ | exact hTa _ | exact hRo _) (by first | assumption | exact b01_r | exact bz_r | omega | (constructor <;> omega) | exact hM _ | exact hPo _ | exact hTa _ | exact hRo _) (by omega) (fun h_51 hB_51 hS_51 => ?_)
      refine r_aload_n (pc := 52) dX11_pooled_52 rfl (by first | rfl | exact isRefV_rf _) ?_
      refine rm_getf (pc := 53) dX11_pooled_53 fX11_11 (by assumption) rfl ?_
      refine rj_bipush (pc := 56) dX11_pooled_56 (by decide +kernel) ?_
      refine r_dup2 (pc := 58) dX11_pooled_58 rfl rfl ?_
      refine rj_iald (pc := 59) (j := 8) dX11_pooled_59 (by first | exact isM.g0 (by assumption) | exact isM.g3 (by assumption) | exact isM.g4 (by assumption) | exact isM.g8 (by assumption) | exact isM.g7 (by assumption) | exact isM.g6 (by assumption) | exact isM.g5 (by assumption) | exact isM.g1 (by assumption) | exact isM.g2 (by assumption)) (by first | assumption | exact b01_r | exact bz_r | omega | (constructor <;> omega) | exact hM _ | exact hPo _ | exact hTa _ | exact hRo _) (by first | assumption | exact b01_r | exact bz_r | omega | (constructor <;> omega) | exact hM _ | exact hPo _ | exact hTa _ | exact hRo _) (by first | assumption | exact b01_r | exact bz_r | omega | (constructor <;> omega) | exact hM _ | exact hPo _ | exact hTa _ | exact hRo _) (by omega) ?_
      refine r_iload_n (pc := 60) dX11_pooled_60 rfl ?_
      refine r_iload_n (pc := 61) dX11_pooled_61 rfl ?_
      refine rj_isub (pc := 62) dX11_pooled_62 ?_
      refine rj_iconst (pc := 63) dX11_pooled_63 ?_
      refine rj_iadd (pc := 64) dX11_pooled_64 ?_
      refine rj_iadd (pc := 65) dX11_pooled_65 ?_
      first | refine rm_iast0 (pc := 66) (j := 8) dX11_pooled_66 (by assumption) (by first | assumption | exact b01_r | exact bz_r | omega | (constructor <;> omega) | exact hM _ | exact hPo _ | exact hTa _ | exact hRo _) (by first | assumption | exact b01_r | exact bz_r | omega | (constructor <;> omega) | exact hM _ | exact hPo _ | exact hTa _ | exact hRo _) (by first | assumption | exact b01_r | exact bz_r | omega | (constructor <;> omega) | exact hM _ | exact hPo _ | exact hTa _ | exact hRo _) (by omega) (fun h_66 hB_66 hS_66 => ?_)
      refine r_iload_n (pc := 67) dX11_pooled_67 rfl ?_
      refine r_ireturn (pc := 68) .int dX11_pooled_68 rfl (by first | rfl | assumption) ?_
      exfalso; omega
    · refine r_aload_n (pc := 17) dX11_pooled_17 rfl (by first | rfl | exact isRefV_rf _) ?_
      refine rm_getf (pc := 18) dX11_pooled_18 fX11_21 (by assumption) rfl ?_
      refine r_iload_n (pc := 21) dX11_pooled_21 rfl ?_
      refine r_iload (pc := 22) dX11_pooled_22 rfl ?_
      refine rj_iadd (pc := 24) dX11_pooled_24 ?_
      refine r_iload_n (pc := 25) dX11_pooled_25 rfl ?_
      refine rj_isub (pc := 26) dX11_pooled_26 ?_
      refine r_aload_n (pc := 27) dX11_pooled_27 rfl (by first | rfl | exact isRefV_rf _) ?_
      refine rm_getf (pc := 28) dX11_pooled_28 fX11_24 (by assumption) rfl ?_
      refine r_iload (pc := 31) dX11_pooled_31 rfl ?_
      refine rj_iald (pc := 33) (j := a + k) dX11_pooled_33 (by first | exact isM.g0 (by assumption) | exact isM.g3 (by assumption) | exact isM.g4 (by assumption) | exact isM.g8 (by assumption) | exact isM.g7 (by assumption) | exact isM.g6 (by assumption) | exact isM.g5 (by assumption) | exact isM.g1 (by assumption) | exact isM.g2 (by assumption)) (by first | assumption | exact b01_r | exact bz_r | omega | (constructor <;> omega) | exact hM _ | exact hPo _ | exact hTa _ | exact hRo _) (by first | assumption | exact b01_r | exact bz_r | omega | (constructor <;> omega) | exact hM _ | exact hPo _ | exact hTa _ | exact hRo _) (by first | assumption | exact b01_r | exact bz_r | omega | (constructor <;> omega) | exact hM _ | exact hPo _ | exact hTa _ | exact hRo _) (by omega) ?_
      first | refine rm_iast3 (pc := 34) (j := p + k) dX11_pooled_34 (by assumption) (by first | assumption | exact b01_r | exact bz_r | omega | (constructor <;> omega) | exact hM _ | exact hPo _ | exact hTa _ | exact hRo _) (by first | assumption | exact b01_r | exact bz_r | omega | (constructor <;> omega) | exact hM _ | exact hPo _ | exact hTa _ | exact hRo _) (by first | assumption | exact b01_r | exact bz_r | omega | (constructor <;> omega) | exact hM _ | exact hPo _ | exact hTa _ | exact hRo _) (by omega) (fun h_34 hB_34 hS_34 => ?_)
      rw [plF_s] at hB_34
      refine rj_iinc (pc := 35) dX11_pooled_35 (Nat.le_of_ble_eq_true rfl) rfl ?_
      dsimp only [lsSt, List.set, mLs, mEnt]
      refine r_goto (pc := 38) (tgt := 11) dX11_pooled_38 (by decide) ?_
      have z := ih (k + 1) h_34 hB_34 (by omega)
      exact z.mono (fun v h' g => ⟨g.1, g.2.1, hS_34.trans g.2.2⟩)
set_option maxHeartbeats 4000000 in
set_option maxRecDepth 100000 in
theorem m_pooled {G : mG} {l : Launch} (d : Nat) {h : mH} {x s : Nat} {f4 f6 f8 f9 f10 f11 f12 f13 f14 f16 f18 : Int} {m kp was pool tape pln pap rwd rw : Nat → Int}(hB : isM h x (mFs x f4 f6 f8 f9 f10 f11 f12 f13 f14 f16 f18 s) m kp was pool tape pln pap rwd rw) {a b p : Nat} (hTa : ∀ q, InR (tape q)) (hab : a ≤ b) (hb : b ≤ 120) (hp : p + (b - a) < 12342) (h8 : m 8 = (p : Int)) : RUNM G l (d) mX11_pooled [.ref x, .int (J (a : Int)), .int (J (b : Int))] h (fun v h' => v = some (.int (J (p : Int))) ∧ isM h' x (mFs x f4 f6 f8 f9 f10 f11 f12 f13 f14 f16 f18 s) (updI m 8 ((p : Int) + (b - a : Nat) + 1)) kp was (pooledP pool tape p a b) tape pln pap rwd rw ∧ Same (mBlk x) h h') := by
  dsimp only [mFs] at hB
  refine RUNM.of (by decide +kernel) (Nat.le_of_ble_eq_true rfl) ?_
  refine r_aload_n (pc := 0) dX11_pooled_0 rfl (by first | rfl | exact isRefV_rf _) ?_
  refine rm_getf (pc := 1) dX11_pooled_1 fX11_11 (by assumption) rfl ?_
  refine rj_bipush (pc := 4) dX11_pooled_4 (by decide +kernel) ?_
  refine rj_iald (pc := 6) (j := 8) dX11_pooled_6 (by first | exact isM.g0 (by assumption) | exact isM.g3 (by assumption) | exact isM.g4 (by assumption) | exact isM.g8 (by assumption) | exact isM.g7 (by assumption) | exact isM.g6 (by assumption) | exact isM.g5 (by assumption) | exact isM.g1 (by assumption) | exact isM.g2 (by assumption)) (by first | assumption | exact b01_r | exact bz_r | omega | (constructor <;> omega) | exact hM _ | exact hPo _ | exact hTa _ | exact hRo _) (by first | assumption | exact b01_r | exact bz_r | omega | (constructor <;> omega) | exact hM _ | exact hPo _ | exact hTa _ | exact hRo _) (by first | assumption | exact b01_r | exact bz_r | omega | (constructor <;> omega) | exact hM _ | exact hPo _ | exact hTa _ | exact hRo _) rfl ?_
  rw [h8]
  refine r_istore_n (pc := 7) dX11_pooled_7 (Nat.le_of_ble_eq_true rfl) ?_
  dsimp only [lsSt, List.set, mLs, mEnt]
  refine r_iload_n (pc := 8) dX11_pooled_8 rfl ?_
  refine r_istore (pc := 9) dX11_pooled_9 (Nat.le_of_ble_eq_true rfl) ?_
  dsimp only [lsSt, List.set, mLs, mEnt]
  exact L_pooled d hTa hab hb hp h8 (b - a) 0 h (by rw [plF_0]; exact hB) (by omega)
end mg_44
section mg_45
/-! ===== contracts of the reference: thing, of ===== -/
/-- the reference's world, whatever its reader holds -/
def isMs (h : mH) (x : Nat) (f4 f6 f14 f16 f18 : Int) (m kp was pool tape pln pap rwd rw : Nat → Int) : Prop := ∃ (f8 f9 f10 f11 f12 f13 : Int) (s : Nat), (0 ≤ f11 ∧ f11 ≤ 99999) ∧ isM h x (mFs x f4 f6 f8 f9 f10 f11 f12 f13 f14 f16 f18 s) m kp was pool tape pln pap rwd rw
def thingV (m pool : Nat → Int) (t k f11 f12 : Int) : Int := if 0 ≤ t ∧ t ≤ m 1 - 1 then (if k = 0 then (if m (258 + 14 * t).toNat = 0 then 0 else 1) else if k = 1 then m (259 + 14 * t).toNat else if k = 2 then m (264 + 14 * t).toNat else if k = 3 then stepsInV pool (m (262 + 14 * t).toNat) (m (263 + 14 * t).toNat) f11 f12 else -1) else -1
set_option maxHeartbeats 4000000 in
set_option maxRecDepth 100000 in
theorem m_stepsInS {G : mG} {l : Launch} (d : Nat) {h : mH} {x s : Nat} {f4 f6 f8 f9 f10 f11 f12 f13 f14 f16 f18 : Int} {m kp was pool tape pln pap rwd rw : Nat → Int}(hB : isM h x (mFs x f4 f6 f8 f9 f10 f11 f12 f13 f14 f16 f18 s) m kp was pool tape pln pap rwd rw) {a b : Int} (hT : txOk 3 pool pool tape b) (h0 : 0 ≤ a) (h1 : a ≤ b) (h2 : 0 ≤ f11 ∧ f11 ≤ 99999) : RUNM G l (d + 32) mX11_stepsIn [.ref x, .int (J a), .int (J b)] h (fun v h' => v = some (.int (J (stepsInV pool a b f11 f12))) ∧ (isMs h' x f4 f6 f14 f16 f18 m kp was pool tape pln pap rwd rw ∧ Same (mBlk x) h h')) :=
  (m_stepsIn d hB hT h0 h1 h2.1 h2.2).mono (fun v h' g => ⟨g.1, g.2.elim (fun e => by rw [e.2]; exact ⟨⟨_, _, _, _, _, _, _, h2, hB⟩, Same.refl⟩) (fun e => ⟨⟨_, _, _, _, _, _, _, ⟨((stepsW_p (sr := pool) (len := b) (w := 0) (it := true)) (a, -1, f11, f12, 90) ⟨h0, h1, Int.le_refl _, (by show (-1 : Int) ≤ b; omega), h2.1, h2.2, (by show (0 : Int) ≤ 90; decide), (by show (90 : Int) ≤ a + 90; omega)⟩).1.2.2.2.2.1, ((stepsW_p (sr := pool) (len := b) (w := 0) (it := true)) (a, -1, f11, f12, 90) ⟨h0, h1, Int.le_refl _, (by show (-1 : Int) ≤ b; omega), h2.1, h2.2, (by show (0 : Int) ≤ 90; decide), (by show (90 : Int) ≤ a + 90; omega)⟩).1.2.2.2.2.2.1⟩, e.2.1⟩, e.2.2⟩)⟩)
set_option maxHeartbeats 4000000 in
set_option maxRecDepth 100000 in
theorem m_thing {G : mG} {l : Launch} (d : Nat) {h : mH} {x s : Nat} {f4 f6 f8 f9 f10 f11 f12 f13 f14 f16 f18 : Int} {m kp was pool tape pln pap rwd rw : Nat → Int}(hB : isM h x (mFs x f4 f6 f8 f9 f10 f11 f12 f13 f14 f16 f18 s) m kp was pool tape pln pap rwd rw) (hM : ∀ q, InR (m q)) (h1 : 0 ≤ m 1 ∧ m 1 ≤ 90) (h11 : 0 ≤ f11 ∧ f11 ≤ 99999) {t k : Int} (ht : InR t) (hk : InR k) (hX : 0 ≤ t ∧ t ≤ m 1 - 1 → 0 ≤ m (262 + 14 * t).toNat ∧ m (262 + 14 * t).toNat ≤ m (263 + 14 * t).toNat ∧ txOk 3 pool pool tape (m (263 + 14 * t).toNat)) : RUNM G l (d + 33) mX11_thing [.ref x, .int (J t), .int (J k)] h (fun v h' => v = some (.int (J (thingV m pool t k f11 f12))) ∧ (isMs h' x f4 f6 f14 f16 f18 m kp was pool tape pln pap rwd rw ∧ Same (mBlk x) h h')) := by
  have hB0 := hB
  dsimp only [mFs] at hB
  refine RUNM.of (by decide +kernel) (Nat.le_of_ble_eq_true rfl) ?_
  refine r_aload_n (pc := 0) dX11_thing_0 rfl (by first | rfl | exact isRefV_rf _) ?_
  refine r_iload_n (pc := 1) dX11_thing_1 rfl ?_
  refine r_callV1 (pc := 2) dX11_thing_2 qX11_isThing kX11_238 vX11_isThing (by exact isM.gx (by assumption)) rfl rfl (Nat.le_of_ble_eq_true rfl) (m_isThing (d + 31) hB0 ht ⟨by omega, by omega⟩) (fun v_2 h_2 q_2 => ?_)
  obtain ⟨rfl, rfl⟩ := q_2
  refine rj_if_ne (pc := 5) (tgt := 10) dX11_thing_5 (by decide) (by first | assumption | exact b01_r | exact bz_r | omega | (constructor <;> omega) | exact hM _ | exact hPo _ | exact hTa _ | exact hRo _) (fun c_5 => ?_) (fun c_5 => ?_)
  · try simp only [b01_0, bz_0, Classical.not_not] at c_5
    have hT := hX c_5
    refine r_iload_n (pc := 10) dX11_thing_10 rfl ?_
    refine rj_tsw (pc := 11) dX11_thing_11 (by first | assumption | exact b01_r | exact bz_r | omega | (constructor <;> omega) | exact hM _ | exact hPo _ | exact hTa _ | exact hRo _) (by decide) (by decide) (by decide) (fun off_11 tgt_11 ho_11 ht_11 => ?_)
    by_cases e_11_0 : k = 0
    · rw [e_11_0] at ho_11
      obtain rfl : off_11 = 29 := ho_11.symm.trans (by decide)
      obtain rfl : tgt_11 = 40 := by omega
      refine r_aload_n (pc := 40) dX11_thing_40 rfl (by first | rfl | exact isRefV_rf _) ?_
      refine r_iload_n (pc := 41) dX11_thing_41 rfl ?_
      refine r_callV1 (pc := 42) dX11_thing_42 qX11_isHeld kX11_119 vX11_isHeld (by exact isM.gx (by assumption)) rfl rfl (Nat.le_of_ble_eq_true rfl) (m_isHeld (d + 31) hB0 hM (by omega) (by omega)) (fun v_42 h_42 q_42 => ?_)
      obtain ⟨rfl, rfl⟩ := q_42
      refine rj_if_eq (pc := 45) (tgt := 52) dX11_thing_45 (by decide) (by first | assumption | exact b01_r | exact bz_r | omega | (constructor <;> omega) | exact hM _ | exact hPo _ | exact hTa _ | exact hRo _) (fun c_45 => ?_) (fun c_45 => ?_)
      · try simp only [b01_0, bz_0, Classical.not_not] at c_45
        refine rj_iconst (pc := 52) dX11_thing_52 ?_
        refine r_ireturn (pc := 53) .int dX11_thing_53 rfl (by first | rfl | assumption) ?_
        first
        | exact ⟨by unfold thingV; rw [if_pos c_5, if_pos e_11_0, if_pos c_45], ⟨_, _, _, _, _, _, _, h11, hB0⟩, Same.refl⟩
        | exact ⟨by unfold thingV; rw [if_pos c_5, if_pos e_11_0, if_neg c_45], ⟨_, _, _, _, _, _, _, h11, hB0⟩, Same.refl⟩
      · try simp only [b01_0, bz_0, Classical.not_not] at c_45
        refine rj_iconst (pc := 48) dX11_thing_48 ?_
        refine r_goto (pc := 49) (tgt := 53) dX11_thing_49 (by decide) ?_
        refine r_ireturn (pc := 53) .int dX11_thing_53 rfl (by first | rfl | assumption) ?_
        first
        | exact ⟨by unfold thingV; rw [if_pos c_5, if_pos e_11_0, if_pos c_45], ⟨_, _, _, _, _, _, _, h11, hB0⟩, Same.refl⟩
        | exact ⟨by unfold thingV; rw [if_pos c_5, if_pos e_11_0, if_neg c_45], ⟨_, _, _, _, _, _, _, h11, hB0⟩, Same.refl⟩
    by_cases e_11_1 : k = 1
    · rw [e_11_1] at ho_11
      obtain rfl : off_11 = 43 := ho_11.symm.trans (by decide)
      obtain rfl : tgt_11 = 54 := by omega
      refine r_aload_n (pc := 54) dX11_thing_54 rfl (by first | rfl | exact isRefV_rf _) ?_
      refine rm_getf (pc := 55) dX11_thing_55 fX11_11 (by assumption) rfl ?_
      refine r_iload_n (pc := 58) dX11_thing_58 rfl ?_
      refine rj_iconst (pc := 59) dX11_thing_59 ?_
      refine rj_iconst (pc := 60) dX11_thing_60 ?_
      refine r_callS3 (pc := 61) dX11_thing_61 qX11_ofThing kX11_54 sX11_ofThing (Nat.le_of_ble_eq_true rfl) (m_ofThing (d + 32)) (fun v_61 h_61 q_61 => ?_)
      obtain ⟨rfl, rfl⟩ := q_61
      refine rj_iald (pc := 64) (j := (259 + 14 * t).toNat) dX11_thing_64 (by first | exact isM.g0 (by assumption) | exact isM.g3 (by assumption) | exact isM.g4 (by assumption) | exact isM.g8 (by assumption) | exact isM.g7 (by assumption) | exact isM.g6 (by assumption) | exact isM.g5 (by assumption) | exact isM.g1 (by assumption) | exact isM.g2 (by assumption)) (by first | assumption | exact b01_r | exact bz_r | omega | (constructor <;> omega) | exact hM _ | exact hPo _ | exact hTa _ | exact hRo _) (by first | assumption | exact b01_r | exact bz_r | omega | (constructor <;> omega) | exact hM _ | exact hPo _ | exact hTa _ | exact hRo _) (by first | assumption | exact b01_r | exact bz_r | omega | (constructor <;> omega) | exact hM _ | exact hPo _ | exact hTa _ | exact hRo _) (by omega) ?_
      refine r_ireturn (pc := 65) .int dX11_thing_65 rfl (by first | rfl | assumption) ?_
      exact ⟨by unfold thingV; rw [if_pos c_5, if_neg e_11_0, if_pos e_11_1], ⟨_, _, _, _, _, _, _, h11, hB0⟩, Same.refl⟩
    by_cases e_11_2 : k = 2
    · rw [e_11_2] at ho_11
      obtain rfl : off_11 = 55 := ho_11.symm.trans (by decide)
      obtain rfl : tgt_11 = 66 := by omega
      refine r_aload_n (pc := 66) dX11_thing_66 rfl (by first | rfl | exact isRefV_rf _) ?_
      refine rm_getf (pc := 67) dX11_thing_67 fX11_11 (by assumption) rfl ?_
      refine r_iload_n (pc := 70) dX11_thing_70 rfl ?_
      refine rj_bipush (pc := 71) dX11_thing_71 (by decide +kernel) ?_
      refine rj_iconst (pc := 73) dX11_thing_73 ?_
      refine r_callS3 (pc := 74) dX11_thing_74 qX11_ofThing kX11_54 sX11_ofThing (Nat.le_of_ble_eq_true rfl) (m_ofThing (d + 32)) (fun v_74 h_74 q_74 => ?_)
      obtain ⟨rfl, rfl⟩ := q_74
      refine rj_iald (pc := 77) (j := (264 + 14 * t).toNat) dX11_thing_77 (by first | exact isM.g0 (by assumption) | exact isM.g3 (by assumption) | exact isM.g4 (by assumption) | exact isM.g8 (by assumption) | exact isM.g7 (by assumption) | exact isM.g6 (by assumption) | exact isM.g5 (by assumption) | exact isM.g1 (by assumption) | exact isM.g2 (by assumption)) (by first | assumption | exact b01_r | exact bz_r | omega | (constructor <;> omega) | exact hM _ | exact hPo _ | exact hTa _ | exact hRo _) (by first | assumption | exact b01_r | exact bz_r | omega | (constructor <;> omega) | exact hM _ | exact hPo _ | exact hTa _ | exact hRo _) (by first | assumption | exact b01_r | exact bz_r | omega | (constructor <;> omega) | exact hM _ | exact hPo _ | exact hTa _ | exact hRo _) (by omega) ?_
      refine r_ireturn (pc := 78) .int dX11_thing_78 rfl (by first | rfl | assumption) ?_
      exact ⟨by unfold thingV; rw [if_pos c_5, if_neg e_11_0, if_neg e_11_1, if_pos e_11_2], ⟨_, _, _, _, _, _, _, h11, hB0⟩, Same.refl⟩
    by_cases e_11_3 : k = 3
    · rw [e_11_3] at ho_11
      obtain rfl : off_11 = 68 := ho_11.symm.trans (by decide)
      obtain rfl : tgt_11 = 79 := by omega
      refine r_aload_n (pc := 79) dX11_thing_79 rfl (by first | rfl | exact isRefV_rf _) ?_
      refine r_aload_n (pc := 80) dX11_thing_80 rfl (by first | rfl | exact isRefV_rf _) ?_
      refine rm_getf (pc := 81) dX11_thing_81 fX11_11 (by assumption) rfl ?_
      refine r_iload_n (pc := 84) dX11_thing_84 rfl ?_
      refine rj_iconst (pc := 85) dX11_thing_85 ?_
      refine rj_iconst (pc := 86) dX11_thing_86 ?_
      refine r_callS3 (pc := 87) dX11_thing_87 qX11_ofThing kX11_54 sX11_ofThing (Nat.le_of_ble_eq_true rfl) (m_ofThing (d + 32)) (fun v_87 h_87 q_87 => ?_)
      obtain ⟨rfl, rfl⟩ := q_87
      refine rj_iald (pc := 90) (j := (262 + 14 * t).toNat) dX11_thing_90 (by first | exact isM.g0 (by assumption) | exact isM.g3 (by assumption) | exact isM.g4 (by assumption) | exact isM.g8 (by assumption) | exact isM.g7 (by assumption) | exact isM.g6 (by assumption) | exact isM.g5 (by assumption) | exact isM.g1 (by assumption) | exact isM.g2 (by assumption)) (by first | assumption | exact b01_r | exact bz_r | omega | (constructor <;> omega) | exact hM _ | exact hPo _ | exact hTa _ | exact hRo _) (by first | assumption | exact b01_r | exact bz_r | omega | (constructor <;> omega) | exact hM _ | exact hPo _ | exact hTa _ | exact hRo _) (by first | assumption | exact b01_r | exact bz_r | omega | (constructor <;> omega) | exact hM _ | exact hPo _ | exact hTa _ | exact hRo _) (by omega) ?_
      refine r_aload_n (pc := 91) dX11_thing_91 rfl (by first | rfl | exact isRefV_rf _) ?_
      refine rm_getf (pc := 92) dX11_thing_92 fX11_11 (by assumption) rfl ?_
      refine r_iload_n (pc := 95) dX11_thing_95 rfl ?_
      refine rj_iconst (pc := 96) dX11_thing_96 ?_
      refine rj_iconst (pc := 97) dX11_thing_97 ?_
      refine r_callS3 (pc := 98) dX11_thing_98 qX11_ofThing kX11_54 sX11_ofThing (Nat.le_of_ble_eq_true rfl) (m_ofThing (d + 32)) (fun v_98 h_98 q_98 => ?_)
      obtain ⟨rfl, rfl⟩ := q_98
      refine rj_iald (pc := 101) (j := (263 + 14 * t).toNat) dX11_thing_101 (by first | exact isM.g0 (by assumption) | exact isM.g3 (by assumption) | exact isM.g4 (by assumption) | exact isM.g8 (by assumption) | exact isM.g7 (by assumption) | exact isM.g6 (by assumption) | exact isM.g5 (by assumption) | exact isM.g1 (by assumption) | exact isM.g2 (by assumption)) (by first | assumption | exact b01_r | exact bz_r | omega | (constructor <;> omega) | exact hM _ | exact hPo _ | exact hTa _ | exact hRo _) (by first | assumption | exact b01_r | exact bz_r | omega | (constructor <;> omega) | exact hM _ | exact hPo _ | exact hTa _ | exact hRo _) (by first | assumption | exact b01_r | exact bz_r | omega | (constructor <;> omega) | exact hM _ | exact hPo _ | exact hTa _ | exact hRo _) (by omega) ?_
      refine r_callV2 (pc := 102) dX11_thing_102 qX11_stepsIn kX11_226 vX11_stepsIn (by exact isM.gx (by assumption)) rfl rfl (Nat.le_of_ble_eq_true rfl) (m_stepsInS d hB0 hT.2.2 hT.1 hT.2.1 h11) (fun v_102 h_102 q_102 => ?_)
      obtain ⟨rfl, hB_102, hS_102⟩ := q_102
      refine r_ireturn (pc := 105) .int dX11_thing_105 rfl (by first | rfl | assumption) ?_
      exact ⟨by unfold thingV; rw [if_pos c_5, if_neg e_11_0, if_neg e_11_1, if_neg e_11_2, if_pos e_11_3], hB_102, hS_102⟩
    have eo_11 : off_11 = 95 := by
      rw [← ho_11]
      unfold tswOff
      rw [if_pos (by omega)]
    obtain rfl : tgt_11 = 106 := by omega
    refine rj_iconst (pc := 106) dX11_thing_106 ?_
    refine r_ireturn (pc := 107) .int dX11_thing_107 rfl (by first | rfl | assumption) ?_
    exact ⟨by unfold thingV; rw [if_pos c_5, if_neg e_11_0, if_neg e_11_1, if_neg e_11_2, if_neg e_11_3], ⟨_, _, _, _, _, _, _, h11, hB0⟩, Same.refl⟩
  · try simp only [b01_0, bz_0, Classical.not_not] at c_5
    refine rj_iconst (pc := 8) dX11_thing_8 ?_
    refine r_ireturn (pc := 9) .int dX11_thing_9 rfl (by first | rfl | assumption) ?_
    exact ⟨by unfold thingV; rw [if_neg c_5], ⟨_, _, _, _, _, _, _, h11, hB0⟩, Same.refl⟩
def ofV (m pool : Nat → Int) (C : Nat) (t k f11 f12 : Int) : Int := if 0 ≤ t ∧ t ≤ m 3 - 1 then (if k = 0 then m (1610 + 72 * t).toNat else if k = 1 then m (1609 + 72 * t).toNat + 100 else if k = 2 then m (1612 + 72 * t).toNat else if k = 3 then m (1608 + 72 * t).toNat else if k = 4 then cnt (shutB m t) C else if k = 5 then m (1615 + 72 * t).toNat else if k = 6 then m (1614 + 72 * t).toNat else if k = 7 then stepsInV pool (m (1616 + 72 * t).toNat) (m (1617 + 72 * t).toNat) f11 f12 else -1) else -1
set_option maxHeartbeats 4000000 in
set_option maxRecDepth 100000 in
theorem m_of {G : mG} {l : Launch} (d : Nat) {h : mH} {x s : Nat} {f4 f6 f8 f9 f10 f11 f12 f13 f14 f16 f18 : Int} {m kp was pool tape pln pap rwd rw : Nat → Int}(hB : isM h x (mFs x f4 f6 f8 f9 f10 f11 f12 f13 f14 f16 f18 s) m kp was pool tape pln pap rwd rw) (hM : ∀ q, InR (m q)) (h3 : 0 ≤ m 3 ∧ m 3 ≤ 10) {C : Nat} (hC : m 0 = (C : Int)) (hC2 : C ≤ 60) (h11 : 0 ≤ f11 ∧ f11 ≤ 99999) {t k : Int} (ht : InR t) (hk : InR k) (hX : 0 ≤ t ∧ t ≤ m 3 - 1 → 0 ≤ m (1616 + 72 * t).toNat ∧ m (1616 + 72 * t).toNat ≤ m (1617 + 72 * t).toNat ∧ txOk 3 pool pool tape (m (1617 + 72 * t).toNat)) : RUNM G l (d + 33) mX11_of [.ref x, .int (J t), .int (J k)] h (fun v h' => v = some (.int (J (ofV m pool C t k f11 f12))) ∧ (isMs h' x f4 f6 f14 f16 f18 m kp was pool tape pln pap rwd rw ∧ Same (mBlk x) h h')) := by
  have hB0 := hB
  dsimp only [mFs] at hB
  refine RUNM.of (by decide +kernel) (Nat.le_of_ble_eq_true rfl) ?_
  refine r_aload_n (pc := 0) dX11_of_0 rfl (by first | rfl | exact isRefV_rf _) ?_
  refine r_iload_n (pc := 1) dX11_of_1 rfl ?_
  refine r_callV1 (pc := 2) dX11_of_2 qX11_isTask kX11_180 vX11_isTask (by exact isM.gx (by assumption)) rfl rfl (Nat.le_of_ble_eq_true rfl) (m_isTask (d + 31) hB0 ht ⟨by omega, by omega⟩) (fun v_2 h_2 q_2 => ?_)
  obtain ⟨rfl, rfl⟩ := q_2
  refine rj_if_ne (pc := 5) (tgt := 10) dX11_of_5 (by decide) (by first | assumption | exact b01_r | exact bz_r | omega | (constructor <;> omega) | exact hM _ | exact hPo _ | exact hTa _ | exact hRo _) (fun c_5 => ?_) (fun c_5 => ?_)
  · try simp only [b01_0, bz_0, Classical.not_not] at c_5
    have hT := hX c_5
    refine r_iload_n (pc := 10) dX11_of_10 rfl ?_
    refine rj_tsw (pc := 11) dX11_of_11 (by first | assumption | exact b01_r | exact bz_r | omega | (constructor <;> omega) | exact hM _ | exact hPo _ | exact hTa _ | exact hRo _) (by decide) (by decide) (by decide) (fun off_11 tgt_11 ho_11 ht_11 => ?_)
    by_cases e_11_0 : k = 0
    · rw [e_11_0] at ho_11
      obtain rfl : off_11 = 45 := ho_11.symm.trans (by decide)
      obtain rfl : tgt_11 = 56 := by omega
      refine r_aload_n (pc := 56) dX11_of_56 rfl (by first | rfl | exact isRefV_rf _) ?_
      refine rm_getf (pc := 57) dX11_of_57 fX11_11 (by assumption) rfl ?_
      refine r_iload_n (pc := 60) dX11_of_60 rfl ?_
      refine rj_iconst (pc := 61) dX11_of_61 ?_
      refine rj_iconst (pc := 62) dX11_of_62 ?_
      refine r_callS3 (pc := 63) dX11_of_63 qX11_ofTask kX11_58 sX11_ofTask (Nat.le_of_ble_eq_true rfl) (m_ofTask (d + 32)) (fun v_63 h_63 q_63 => ?_)
      obtain ⟨rfl, rfl⟩ := q_63
      refine rj_iald (pc := 66) (j := (1610 + 72 * t).toNat) dX11_of_66 (by first | exact isM.g0 (by assumption) | exact isM.g3 (by assumption) | exact isM.g4 (by assumption) | exact isM.g8 (by assumption) | exact isM.g7 (by assumption) | exact isM.g6 (by assumption) | exact isM.g5 (by assumption) | exact isM.g1 (by assumption) | exact isM.g2 (by assumption)) (by first | assumption | exact b01_r | exact bz_r | omega | (constructor <;> omega) | exact hM _ | exact hPo _ | exact hTa _ | exact hRo _) (by first | assumption | exact b01_r | exact bz_r | omega | (constructor <;> omega) | exact hM _ | exact hPo _ | exact hTa _ | exact hRo _) (by first | assumption | exact b01_r | exact bz_r | omega | (constructor <;> omega) | exact hM _ | exact hPo _ | exact hTa _ | exact hRo _) (by omega) ?_
      refine r_ireturn (pc := 67) .int dX11_of_67 rfl (by first | rfl | assumption) ?_
      exact ⟨by unfold ofV; rw [if_pos c_5, if_pos e_11_0], ⟨_, _, _, _, _, _, _, h11, hB0⟩, Same.refl⟩
    by_cases e_11_1 : k = 1
    · rw [e_11_1] at ho_11
      obtain rfl : off_11 = 57 := ho_11.symm.trans (by decide)
      obtain rfl : tgt_11 = 68 := by omega
      refine r_aload_n (pc := 68) dX11_of_68 rfl (by first | rfl | exact isRefV_rf _) ?_
      refine rm_getf (pc := 69) dX11_of_69 fX11_11 (by assumption) rfl ?_
      refine r_iload_n (pc := 72) dX11_of_72 rfl ?_
      refine rj_iconst (pc := 73) dX11_of_73 ?_
      refine rj_iconst (pc := 74) dX11_of_74 ?_
      refine r_callS3 (pc := 75) dX11_of_75 qX11_ofTask kX11_58 sX11_ofTask (Nat.le_of_ble_eq_true rfl) (m_ofTask (d + 32)) (fun v_75 h_75 q_75 => ?_)
      obtain ⟨rfl, rfl⟩ := q_75
      refine rj_iald (pc := 78) (j := (1609 + 72 * t).toNat) dX11_of_78 (by first | exact isM.g0 (by assumption) | exact isM.g3 (by assumption) | exact isM.g4 (by assumption) | exact isM.g8 (by assumption) | exact isM.g7 (by assumption) | exact isM.g6 (by assumption) | exact isM.g5 (by assumption) | exact isM.g1 (by assumption) | exact isM.g2 (by assumption)) (by first | assumption | exact b01_r | exact bz_r | omega | (constructor <;> omega) | exact hM _ | exact hPo _ | exact hTa _ | exact hRo _) (by first | assumption | exact b01_r | exact bz_r | omega | (constructor <;> omega) | exact hM _ | exact hPo _ | exact hTa _ | exact hRo _) (by first | assumption | exact b01_r | exact bz_r | omega | (constructor <;> omega) | exact hM _ | exact hPo _ | exact hTa _ | exact hRo _) (by omega) ?_
      refine rj_bipush (pc := 79) dX11_of_79 (by decide +kernel) ?_
      refine rj_iadd (pc := 81) dX11_of_81 ?_
      refine r_ireturn (pc := 82) .int dX11_of_82 rfl (by first | rfl | assumption) ?_
      exact ⟨by unfold ofV; rw [if_pos c_5, if_neg e_11_0, if_pos e_11_1], ⟨_, _, _, _, _, _, _, h11, hB0⟩, Same.refl⟩
    by_cases e_11_2 : k = 2
    · rw [e_11_2] at ho_11
      obtain rfl : off_11 = 72 := ho_11.symm.trans (by decide)
      obtain rfl : tgt_11 = 83 := by omega
      refine r_aload_n (pc := 83) dX11_of_83 rfl (by first | rfl | exact isRefV_rf _) ?_
      refine rm_getf (pc := 84) dX11_of_84 fX11_11 (by assumption) rfl ?_
      refine r_iload_n (pc := 87) dX11_of_87 rfl ?_
      refine rj_iconst (pc := 88) dX11_of_88 ?_
      refine rj_iconst (pc := 89) dX11_of_89 ?_
      refine r_callS3 (pc := 90) dX11_of_90 qX11_ofTask kX11_58 sX11_ofTask (Nat.le_of_ble_eq_true rfl) (m_ofTask (d + 32)) (fun v_90 h_90 q_90 => ?_)
      obtain ⟨rfl, rfl⟩ := q_90
      refine rj_iald (pc := 93) (j := (1612 + 72 * t).toNat) dX11_of_93 (by first | exact isM.g0 (by assumption) | exact isM.g3 (by assumption) | exact isM.g4 (by assumption) | exact isM.g8 (by assumption) | exact isM.g7 (by assumption) | exact isM.g6 (by assumption) | exact isM.g5 (by assumption) | exact isM.g1 (by assumption) | exact isM.g2 (by assumption)) (by first | assumption | exact b01_r | exact bz_r | omega | (constructor <;> omega) | exact hM _ | exact hPo _ | exact hTa _ | exact hRo _) (by first | assumption | exact b01_r | exact bz_r | omega | (constructor <;> omega) | exact hM _ | exact hPo _ | exact hTa _ | exact hRo _) (by first | assumption | exact b01_r | exact bz_r | omega | (constructor <;> omega) | exact hM _ | exact hPo _ | exact hTa _ | exact hRo _) (by omega) ?_
      refine r_ireturn (pc := 94) .int dX11_of_94 rfl (by first | rfl | assumption) ?_
      exact ⟨by unfold ofV; rw [if_pos c_5, if_neg e_11_0, if_neg e_11_1, if_pos e_11_2], ⟨_, _, _, _, _, _, _, h11, hB0⟩, Same.refl⟩
    by_cases e_11_3 : k = 3
    · rw [e_11_3] at ho_11
      obtain rfl : off_11 = 84 := ho_11.symm.trans (by decide)
      obtain rfl : tgt_11 = 95 := by omega
      refine r_aload_n (pc := 95) dX11_of_95 rfl (by first | rfl | exact isRefV_rf _) ?_
      refine rm_getf (pc := 96) dX11_of_96 fX11_11 (by assumption) rfl ?_
      refine r_iload_n (pc := 99) dX11_of_99 rfl ?_
      refine rj_iconst (pc := 100) dX11_of_100 ?_
      refine rj_iconst (pc := 101) dX11_of_101 ?_
      refine r_callS3 (pc := 102) dX11_of_102 qX11_ofTask kX11_58 sX11_ofTask (Nat.le_of_ble_eq_true rfl) (m_ofTask (d + 32)) (fun v_102 h_102 q_102 => ?_)
      obtain ⟨rfl, rfl⟩ := q_102
      refine rj_iald (pc := 105) (j := (1608 + 72 * t).toNat) dX11_of_105 (by first | exact isM.g0 (by assumption) | exact isM.g3 (by assumption) | exact isM.g4 (by assumption) | exact isM.g8 (by assumption) | exact isM.g7 (by assumption) | exact isM.g6 (by assumption) | exact isM.g5 (by assumption) | exact isM.g1 (by assumption) | exact isM.g2 (by assumption)) (by first | assumption | exact b01_r | exact bz_r | omega | (constructor <;> omega) | exact hM _ | exact hPo _ | exact hTa _ | exact hRo _) (by first | assumption | exact b01_r | exact bz_r | omega | (constructor <;> omega) | exact hM _ | exact hPo _ | exact hTa _ | exact hRo _) (by first | assumption | exact b01_r | exact bz_r | omega | (constructor <;> omega) | exact hM _ | exact hPo _ | exact hTa _ | exact hRo _) (by omega) ?_
      refine r_ireturn (pc := 106) .int dX11_of_106 rfl (by first | rfl | assumption) ?_
      exact ⟨by unfold ofV; rw [if_pos c_5, if_neg e_11_0, if_neg e_11_1, if_neg e_11_2, if_pos e_11_3], ⟨_, _, _, _, _, _, _, h11, hB0⟩, Same.refl⟩
    by_cases e_11_4 : k = 4
    · rw [e_11_4] at ho_11
      obtain rfl : off_11 = 96 := ho_11.symm.trans (by decide)
      obtain rfl : tgt_11 = 107 := by omega
      refine r_aload_n (pc := 107) dX11_of_107 rfl (by first | rfl | exact isRefV_rf _) ?_
      refine r_iload_n (pc := 108) dX11_of_108 rfl ?_
      refine r_callV1 (pc := 109) dX11_of_109 qX11_notShut kX11_223 vX11_notShut (by exact isM.gx (by assumption)) rfl rfl (Nat.le_of_ble_eq_true rfl) (m_notShut (d + 30) hB0 hM hC hC2 ht) (fun v_109 h_109 q_109 => ?_)
      obtain ⟨rfl, rfl⟩ := q_109
      refine r_ireturn (pc := 112) .int dX11_of_112 rfl (by first | rfl | assumption) ?_
      exact ⟨by unfold ofV; rw [if_pos c_5, if_neg e_11_0, if_neg e_11_1, if_neg e_11_2, if_neg e_11_3, if_pos e_11_4], ⟨_, _, _, _, _, _, _, h11, hB0⟩, Same.refl⟩
    by_cases e_11_5 : k = 5
    · rw [e_11_5] at ho_11
      obtain rfl : off_11 = 102 := ho_11.symm.trans (by decide)
      obtain rfl : tgt_11 = 113 := by omega
      refine r_aload_n (pc := 113) dX11_of_113 rfl (by first | rfl | exact isRefV_rf _) ?_
      refine rm_getf (pc := 114) dX11_of_114 fX11_11 (by assumption) rfl ?_
      refine r_iload_n (pc := 117) dX11_of_117 rfl ?_
      refine rj_bipush (pc := 118) dX11_of_118 (by decide +kernel) ?_
      refine rj_iconst (pc := 120) dX11_of_120 ?_
      refine r_callS3 (pc := 121) dX11_of_121 qX11_ofTask kX11_58 sX11_ofTask (Nat.le_of_ble_eq_true rfl) (m_ofTask (d + 32)) (fun v_121 h_121 q_121 => ?_)
      obtain ⟨rfl, rfl⟩ := q_121
      refine rj_iald (pc := 124) (j := (1615 + 72 * t).toNat) dX11_of_124 (by first | exact isM.g0 (by assumption) | exact isM.g3 (by assumption) | exact isM.g4 (by assumption) | exact isM.g8 (by assumption) | exact isM.g7 (by assumption) | exact isM.g6 (by assumption) | exact isM.g5 (by assumption) | exact isM.g1 (by assumption) | exact isM.g2 (by assumption)) (by first | assumption | exact b01_r | exact bz_r | omega | (constructor <;> omega) | exact hM _ | exact hPo _ | exact hTa _ | exact hRo _) (by first | assumption | exact b01_r | exact bz_r | omega | (constructor <;> omega) | exact hM _ | exact hPo _ | exact hTa _ | exact hRo _) (by first | assumption | exact b01_r | exact bz_r | omega | (constructor <;> omega) | exact hM _ | exact hPo _ | exact hTa _ | exact hRo _) (by omega) ?_
      refine r_ireturn (pc := 125) .int dX11_of_125 rfl (by first | rfl | assumption) ?_
      exact ⟨by unfold ofV; rw [if_pos c_5, if_neg e_11_0, if_neg e_11_1, if_neg e_11_2, if_neg e_11_3, if_neg e_11_4, if_pos e_11_5], ⟨_, _, _, _, _, _, _, h11, hB0⟩, Same.refl⟩
    by_cases e_11_6 : k = 6
    · rw [e_11_6] at ho_11
      obtain rfl : off_11 = 115 := ho_11.symm.trans (by decide)
      obtain rfl : tgt_11 = 126 := by omega
      refine r_aload_n (pc := 126) dX11_of_126 rfl (by first | rfl | exact isRefV_rf _) ?_
      refine rm_getf (pc := 127) dX11_of_127 fX11_11 (by assumption) rfl ?_
      refine r_iload_n (pc := 130) dX11_of_130 rfl ?_
      refine rj_bipush (pc := 131) dX11_of_131 (by decide +kernel) ?_
      refine rj_iconst (pc := 133) dX11_of_133 ?_
      refine r_callS3 (pc := 134) dX11_of_134 qX11_ofTask kX11_58 sX11_ofTask (Nat.le_of_ble_eq_true rfl) (m_ofTask (d + 32)) (fun v_134 h_134 q_134 => ?_)
      obtain ⟨rfl, rfl⟩ := q_134
      refine rj_iald (pc := 137) (j := (1614 + 72 * t).toNat) dX11_of_137 (by first | exact isM.g0 (by assumption) | exact isM.g3 (by assumption) | exact isM.g4 (by assumption) | exact isM.g8 (by assumption) | exact isM.g7 (by assumption) | exact isM.g6 (by assumption) | exact isM.g5 (by assumption) | exact isM.g1 (by assumption) | exact isM.g2 (by assumption)) (by first | assumption | exact b01_r | exact bz_r | omega | (constructor <;> omega) | exact hM _ | exact hPo _ | exact hTa _ | exact hRo _) (by first | assumption | exact b01_r | exact bz_r | omega | (constructor <;> omega) | exact hM _ | exact hPo _ | exact hTa _ | exact hRo _) (by first | assumption | exact b01_r | exact bz_r | omega | (constructor <;> omega) | exact hM _ | exact hPo _ | exact hTa _ | exact hRo _) (by omega) ?_
      refine r_ireturn (pc := 138) .int dX11_of_138 rfl (by first | rfl | assumption) ?_
      exact ⟨by unfold ofV; rw [if_pos c_5, if_neg e_11_0, if_neg e_11_1, if_neg e_11_2, if_neg e_11_3, if_neg e_11_4, if_neg e_11_5, if_pos e_11_6], ⟨_, _, _, _, _, _, _, h11, hB0⟩, Same.refl⟩
    by_cases e_11_7 : k = 7
    · rw [e_11_7] at ho_11
      obtain rfl : off_11 = 128 := ho_11.symm.trans (by decide)
      obtain rfl : tgt_11 = 139 := by omega
      refine r_aload_n (pc := 139) dX11_of_139 rfl (by first | rfl | exact isRefV_rf _) ?_
      refine r_aload_n (pc := 140) dX11_of_140 rfl (by first | rfl | exact isRefV_rf _) ?_
      refine rm_getf (pc := 141) dX11_of_141 fX11_11 (by assumption) rfl ?_
      refine r_iload_n (pc := 144) dX11_of_144 rfl ?_
      refine rj_bipush (pc := 145) dX11_of_145 (by decide +kernel) ?_
      refine rj_iconst (pc := 147) dX11_of_147 ?_
      refine r_callS3 (pc := 148) dX11_of_148 qX11_ofTask kX11_58 sX11_ofTask (Nat.le_of_ble_eq_true rfl) (m_ofTask (d + 32)) (fun v_148 h_148 q_148 => ?_)
      obtain ⟨rfl, rfl⟩ := q_148
      refine rj_iald (pc := 151) (j := (1616 + 72 * t).toNat) dX11_of_151 (by first | exact isM.g0 (by assumption) | exact isM.g3 (by assumption) | exact isM.g4 (by assumption) | exact isM.g8 (by assumption) | exact isM.g7 (by assumption) | exact isM.g6 (by assumption) | exact isM.g5 (by assumption) | exact isM.g1 (by assumption) | exact isM.g2 (by assumption)) (by first | assumption | exact b01_r | exact bz_r | omega | (constructor <;> omega) | exact hM _ | exact hPo _ | exact hTa _ | exact hRo _) (by first | assumption | exact b01_r | exact bz_r | omega | (constructor <;> omega) | exact hM _ | exact hPo _ | exact hTa _ | exact hRo _) (by first | assumption | exact b01_r | exact bz_r | omega | (constructor <;> omega) | exact hM _ | exact hPo _ | exact hTa _ | exact hRo _) (by omega) ?_
      refine r_aload_n (pc := 152) dX11_of_152 rfl (by first | rfl | exact isRefV_rf _) ?_
      refine rm_getf (pc := 153) dX11_of_153 fX11_11 (by assumption) rfl ?_
      refine r_iload_n (pc := 156) dX11_of_156 rfl ?_
      refine rj_bipush (pc := 157) dX11_of_157 (by decide +kernel) ?_
      refine rj_iconst (pc := 159) dX11_of_159 ?_
      refine r_callS3 (pc := 160) dX11_of_160 qX11_ofTask kX11_58 sX11_ofTask (Nat.le_of_ble_eq_true rfl) (m_ofTask (d + 32)) (fun v_160 h_160 q_160 => ?_)
      obtain ⟨rfl, rfl⟩ := q_160
      refine rj_iald (pc := 163) (j := (1617 + 72 * t).toNat) dX11_of_163 (by first | exact isM.g0 (by assumption) | exact isM.g3 (by assumption) | exact isM.g4 (by assumption) | exact isM.g8 (by assumption) | exact isM.g7 (by assumption) | exact isM.g6 (by assumption) | exact isM.g5 (by assumption) | exact isM.g1 (by assumption) | exact isM.g2 (by assumption)) (by first | assumption | exact b01_r | exact bz_r | omega | (constructor <;> omega) | exact hM _ | exact hPo _ | exact hTa _ | exact hRo _) (by first | assumption | exact b01_r | exact bz_r | omega | (constructor <;> omega) | exact hM _ | exact hPo _ | exact hTa _ | exact hRo _) (by first | assumption | exact b01_r | exact bz_r | omega | (constructor <;> omega) | exact hM _ | exact hPo _ | exact hTa _ | exact hRo _) (by omega) ?_
      refine r_callV2 (pc := 164) dX11_of_164 qX11_stepsIn kX11_226 vX11_stepsIn (by exact isM.gx (by assumption)) rfl rfl (Nat.le_of_ble_eq_true rfl) (m_stepsInS d hB0 hT.2.2 hT.1 hT.2.1 h11) (fun v_164 h_164 q_164 => ?_)
      obtain ⟨rfl, hB_164, hS_164⟩ := q_164
      refine r_ireturn (pc := 167) .int dX11_of_167 rfl (by first | rfl | assumption) ?_
      exact ⟨by unfold ofV; rw [if_pos c_5, if_neg e_11_0, if_neg e_11_1, if_neg e_11_2, if_neg e_11_3, if_neg e_11_4, if_neg e_11_5, if_neg e_11_6, if_pos e_11_7], hB_164, hS_164⟩
    have eo_11 : off_11 = 157 := by
      rw [← ho_11]
      unfold tswOff
      rw [if_pos (by omega)]
    obtain rfl : tgt_11 = 168 := by omega
    refine rj_iconst (pc := 168) dX11_of_168 ?_
    refine r_ireturn (pc := 169) .int dX11_of_169 rfl (by first | rfl | assumption) ?_
    exact ⟨by unfold ofV; rw [if_pos c_5, if_neg e_11_0, if_neg e_11_1, if_neg e_11_2, if_neg e_11_3, if_neg e_11_4, if_neg e_11_5, if_neg e_11_6, if_neg e_11_7], ⟨_, _, _, _, _, _, _, h11, hB0⟩, Same.refl⟩
  · try simp only [b01_0, bz_0, Classical.not_not] at c_5
    refine rj_iconst (pc := 8) dX11_of_8 ?_
    refine r_ireturn (pc := 9) .int dX11_of_9 rfl (by first | rfl | assumption) ?_
    exact ⟨by unfold ofV; rw [if_neg c_5], ⟨_, _, _, _, _, _, _, h11, hB0⟩, Same.refl⟩
end mg_45
section mg_50
/-! ===== the class's world: rows of ints with a size (Ints), a World of 177 objects, a Runner around it, Reader, Speller, the keeper itself ===== -/
def iBlk (a : Nat) : Nat → Prop := fun b => b = a ∨ b = a + 1
def isI (h : mH) (a n : Nat) (z : Int) (f : Nat → Int) : Prop := h.1 ≤ a ∧ hGet h a = some (.inl (1, [.ref (a + 1), .int (J z)])) ∧ hGet h (a + 1) = some (.inr (.inl (n, fun q => J (f q))))
section II
variable {h h' : mH} {a n : Nat} {z : Int} {f : Nat → Int}
theorem isI.lo (k : isI h a n z f) : h.1 ≤ a := k.1
theorem isI.lo1 (k : isI h a n z f) : h.1 ≤ a + 1 := Nat.le_succ_of_le k.1
theorem isI.gx (k : isI h a n z f) : hGet h a = some (.inl (1, [.ref (a + 1), .int (J z)])) := k.2.1
theorem isI.gc (k : isI h a n z f) : hGet h (a + 1) = some (.inr (.inl (n, fun q => J (f q)))) := k.2.2
theorem isI.putz (k : isI h a n z f) (z' : Int) : isI (hPut h a (.inl (1, [.ref (a + 1), .int (J z')]))) a n z' f := ⟨k.lo, hGet_put_self, hGet_put_ne (by omega) k.gc⟩
theorem isI.putc (k : isI h a n z f) (f' : Nat → Int) : isI (hPut h (a + 1) (.inr (.inl (n, fun q => J (f' q))))) a n z f' := ⟨k.lo, hGet_put_ne (by omega) k.gx, hGet_put_self⟩
theorem isI.keep2 (k : isI h a n z f) (e : h'.1 = h.1) (S : ∀ b, iBlk a b → hGet h' b = hGet h b) : isI h' a n z f :=
  ⟨by rw [e]; exact k.lo, (S _ (Or.inl rfl)).trans k.gx, (S _ (Or.inr rfl)).trans k.gc⟩
theorem isI.kept {P : Nat → Prop} (k : isI h a n z f) (S : Same P h h') (h1 : ¬ P a) (h2 : ¬ P (a + 1)) : isI h' a n z f :=
  ⟨by rw [S.1]; exact k.lo, (S.2.2.2 _ h1).trans k.gx, (S.2.2.2 _ h2).trans k.gc⟩
end II
section RI
variable {G : mG} {l : Launch} {d : Nat} {M : mM} {pc : Nat} {ls : List (Option Value)} {st : List Value} {h : mH} {Q : Option Value → mH → Prop} {a n : Nat} {z : Int} {f : Nat → Int}
theorem rc_putz {index : Nat} {v : Int} (hdg : decode M.2.1 pc = .ok (.putfield index, 3)) (hf : mFld M.1.cls index 1 1 .int false) (hI : isI h a n z f)
    (K : ∀ h1, isI h1 a n v f → Same (iBlk a) h h1 → RUN G l d M (pc + 3) ls st h1 Q) : RUN G l d M pc ls (.int (J v) :: .ref a :: st) h Q :=
  r_putf hdg hf hI.gx hI.lo rfl rfl (Nat.le_of_ble_eq_true rfl) (K _ (hI.putz _) (Same.refl.put (Or.inl rfl)))
theorem rc_iast {i v : Int} (hdg : decode M.2.1 pc = .ok (.iastore, 1)) (hI : isI h a n z f) (hr : InR i) (h0 : 0 ≤ i) (h1 : i < n)
    (K : ∀ h1, isI h1 a n z (updI f i.toNat v) → Same (iBlk a) h h1 → RUN G l d M (pc + 1) ls st h1 Q) : RUN G l d M pc ls (.int (J v) :: .int (J i) :: .ref (a + 1) :: st) h Q :=
  rj_iast hdg hI.gc hI.lo1 hr h0 h1 (K _ (hI.putc _) (Same.refl.put (Or.inr rfl)))
end RI
theorem rj_alenR {G : mG} {l : Launch} {d : Nat} {M : mM} {pc : Nat} {ls : List (Option Value)} {st : List Value} {h : mH} {Q : Option Value → mH → Prop} {c t n : Nat} {f : Nat → Option Nat} (hdg : decode M.2.1 pc = .ok (.arraylength, 1)) (ho : hGet h c = some (.inr (.inr (t, n, f)))) (K : RUN G l d M (pc + 1) ls (.int (J (n : Int)) :: st) h Q) : RUN G l d M pc ls (.ref c :: st) h Q := r_alenR hdg ho (by rw [J_nat]; exact K)
def wA (w k : Nat) : Nat := w + k
def wT (w q : Nat) : Nat := w + 17 + q
def wS (w q : Nat) : Nat := w + 107 + q
def wK (w q : Nat) : Nat := w + 167 + q
def wBlk (w : Nat) : Nat → Prop := fun b => w ≤ b ∧ b < w + 177
def iAd : Nat → Nat
  | 0 => 4 | 1 => 6 | 2 => 8 | 3 => 11 | 4 => 13 | _ => 15
def iRm : Nat → Nat
  | 0 => 8 | 1 => 90 | 2 => 150 | 3 => 90 | 4 => 90 | _ => 90
def updC (C : Nat → Nat → Int) (k : Nat) (f : Nat → Int) : Nat → Nat → Int := fun j => if j = k then f else C j
def updO (g : Nat → Option Nat) (k : Nat) (r : Option Nat) : Nat → Option Nat := fun j => if j = k then r else g j
def updL (g : Nat → Int64) (k : Nat) (r : Int64) : Nat → Int64 := fun j => if j = k then r else g j
theorem updC_s {C : Nat → Nat → Int} {k : Nat} {f : Nat → Int} : updC C k f k = f := by simp [updC]
theorem updC_n {C : Nat → Nat → Int} {k q : Nat} {f : Nat → Int} (h : q ≠ k) : updC C k f q = C q := by simp [updC, h]
theorem updO_s {C : Nat → Option Nat} {k : Nat} {f : Option Nat} : updO C k f k = f := by simp [updO]
theorem updO_n {C : Nat → Option Nat} {k q : Nat} {f : Option Nat} (h : q ≠ k) : updO C k f q = C q := by simp [updO, h]
theorem updL_n {C : Nat → Int64} {k q : Nat} {f : Int64} (h : q ≠ k) : updL C k f q = C q := by simp [updL, h]
noncomputable def wFs (w : Nat) (c : Nat → Int) : List Value := [.ref (wA w 1), .ref (wA w 2), .ref (wA w 3), .int (J (c 0)), .int (J (c 1)), .int (J (c 2)), .int (J (c 3)), .ref (wA w 4), .ref (wA w 6), .ref (wA w 8), .ref (wA w 10)]
noncomputable def uFs (w : Nat) (c : Nat → Int) : List Value := [.ref (wA w 11), .ref (wA w 13), .ref (wA w 15), .int (J (c 4))]
noncomputable def tFs (c : Nat → Int) (nm : Nat → Int64) (g : Nat → Option Nat) (q : Nat) : List Value := [.long (nm q), va_rf (g (2 * q)), va_rf (g (2 * q + 1)), .int (J (c (32 + 3 * q))), .int (J (c (33 + 3 * q))), .int (J (c (34 + 3 * q)))]
noncomputable def sFs (c : Nat → Int) (q : Nat) : List Value := [.int (J (c (304 + 3 * q))), .int (J (c (305 + 3 * q))), .int (J (c (306 + 3 * q)))]
noncomputable def kFs (c : Nat → Int) (g : Nat → Option Nat) (q : Nat) : List Value := [va_rf (g (180 + 2 * q)), va_rf (g (181 + 2 * q)), .int (J (c (488 + 9 * q))), .int (J (c (489 + 9 * q))), .int (J (c (490 + 9 * q))), .int (J (c (491 + 9 * q))), .int (J (c (492 + 9 * q))), .int (J (c (493 + 9 * q))), .int (J (c (494 + 9 * q))), .int (J (c (495 + 9 * q))), .int (J (c (496 + 9 * q)))]
def rowT (w : Nat) : Nat → Option Nat := fun q => if q < 90 then some (wT w q) else none
def rowS (w : Nat) : Nat → Option Nat := fun q => if q < 60 then some (wS w q) else none
def rowK (w : Nat) : Nat → Option Nat := fun q => if q < 10 then some (wK w q) else none
def isW (h : mH) (w : Nat) (c : Nat → Int) (C : Nat → Nat → Int) (nm : Nat → Int64) (g : Nat → Option Nat) : Prop :=
  h.1 ≤ w ∧ hGet h w = some (.inl (9, wFs w c)) ∧ hGet h (wA w 1) = some (.inr (.inr (2, 90, rowT w))) ∧ hGet h (wA w 2) = some (.inr (.inr (3, 60, rowS w))) ∧ hGet h (wA w 3) = some (.inr (.inr (4, 10, rowK w))) ∧
  hGet h (wA w 10) = some (.inl (0, uFs w c)) ∧ (∀ k, k < 6 → isI h (wA w (iAd k)) (iRm k) (c (8 + k)) (C k)) ∧
  (∀ q, q < 90 → hGet h (wT w q) = some (.inl (8, tFs c nm g q))) ∧ (∀ q, q < 60 → hGet h (wS w q) = some (.inl (4, sFs c q))) ∧ (∀ q, q < 10 → hGet h (wK w q) = some (.inl (7, kFs c g q)))
section IW
variable {h h' : mH} {w : Nat} {c : Nat → Int} {C : Nat → Nat → Int} {nm : Nat → Int64} {g : Nat → Option Nat}
theorem isW.lo (k : isW h w c C nm g) : h.1 ≤ w := k.1
theorem isW.loA (k : isW h w c C nm g) (j : Nat) : h.1 ≤ wA w j := Nat.le_trans k.1 (by unfold wA; omega)
theorem isW.loT (k : isW h w c C nm g) (j : Nat) : h.1 ≤ wT w j := Nat.le_trans k.1 (by unfold wT; omega)
theorem isW.loS (k : isW h w c C nm g) (j : Nat) : h.1 ≤ wS w j := Nat.le_trans k.1 (by unfold wS; omega)
theorem isW.loK (k : isW h w c C nm g) (j : Nat) : h.1 ≤ wK w j := Nat.le_trans k.1 (by unfold wK; omega)
theorem isW.gx (k : isW h w c C nm g) : hGet h w = some (.inl (9, wFs w c)) := k.2.1
theorem isW.g1 (k : isW h w c C nm g) : hGet h (wA w 1) = some (.inr (.inr (2, 90, rowT w))) := k.2.2.1
theorem isW.g2 (k : isW h w c C nm g) : hGet h (wA w 2) = some (.inr (.inr (3, 60, rowS w))) := k.2.2.2.1
theorem isW.g3 (k : isW h w c C nm g) : hGet h (wA w 3) = some (.inr (.inr (4, 10, rowK w))) := k.2.2.2.2.1
theorem isW.gF (k : isW h w c C nm g) : hGet h (wA w 10) = some (.inl (0, uFs w c)) := k.2.2.2.2.2.1
theorem isW.gI (k : isW h w c C nm g) {j : Nat} (hj : j < 6) : isI h (wA w (iAd j)) (iRm j) (c (8 + j)) (C j) := k.2.2.2.2.2.2.1 j hj
theorem isW.gT (k : isW h w c C nm g) {q : Nat} (hq : q < 90) : hGet h (wT w q) = some (.inl (8, tFs c nm g q)) := k.2.2.2.2.2.2.2.1 q hq
theorem isW.gS (k : isW h w c C nm g) {q : Nat} (hq : q < 60) : hGet h (wS w q) = some (.inl (4, sFs c q)) := k.2.2.2.2.2.2.2.2.1 q hq
theorem isW.gK (k : isW h w c C nm g) {q : Nat} (hq : q < 10) : hGet h (wK w q) = some (.inl (7, kFs c g q)) := k.2.2.2.2.2.2.2.2.2 q hq
theorem isW.i0 (k : isW h w c C nm g) : isI h (wA w 4) 8 (c 8) (C 0) := k.gI (j := 0) (by decide)
theorem isW.i1 (k : isW h w c C nm g) : isI h (wA w 6) 90 (c 9) (C 1) := k.gI (j := 1) (by decide)
theorem isW.i2 (k : isW h w c C nm g) : isI h (wA w 8) 150 (c 10) (C 2) := k.gI (j := 2) (by decide)
theorem isW.i3 (k : isW h w c C nm g) : isI h (wA w 11) 90 (c 11) (C 3) := k.gI (j := 3) (by decide)
theorem isW.i4 (k : isW h w c C nm g) : isI h (wA w 13) 90 (c 12) (C 4) := k.gI (j := 4) (by decide)
theorem isW.i5 (k : isW h w c C nm g) : isI h (wA w 15) 90 (c 13) (C 5) := k.gI (j := 5) (by decide)
theorem iAd_r {k : Nat} : 4 ≤ iAd k ∧ iAd k ≤ 15 ∧ iAd k ≠ 10 ∧ iAd k + 1 ≠ 10 := by
  match k with
  | 0 => decide
  | 1 => decide
  | 2 => decide
  | 3 => decide
  | 4 => decide
  | k + 5 => exact (by decide : 4 ≤ 15 ∧ 15 ≤ 15 ∧ 15 ≠ 10 ∧ 15 + 1 ≠ 10)
theorem iAd_d : ∀ j, j < 6 → ∀ k, k < 6 → j ≠ k → iAd j ≠ iAd k ∧ iAd j ≠ iAd k + 1 ∧ iAd j + 1 ≠ iAd k := by decide
/-- another heap, other data: what has to be shown -/
theorem isW.keep2 (k : isW h w c C nm g) (e : h'.1 = h.1) (S : ∀ b, wBlk w b → hGet h' b = hGet h b) : isW h' w c C nm g := by
  obtain ⟨k0, k1, k2, k3, k4, k5, k6, k7, k8, k9⟩ := k
  refine ⟨by rw [e]; exact k0, ?_, ?_, ?_, ?_, ?_, fun q hq => ?_, fun q hq => ?_, fun q hq => ?_, fun q hq => ?_⟩
  · exact (S _ (by unfold wBlk; omega)).trans k1
  · exact (S _ (by unfold wBlk wA; omega)).trans k2
  · exact (S _ (by unfold wBlk wA; omega)).trans k3
  · exact (S _ (by unfold wBlk wA; omega)).trans k4
  · exact (S _ (by unfold wBlk wA; omega)).trans k5
  · have := iAd_r (k := q)
    exact (k6 q hq).keep2 e (fun b hb => S b (by unfold iBlk wA at hb; unfold wBlk; omega))
  · exact (S _ (by unfold wBlk wT; omega)).trans (k7 q hq)
  · exact (S _ (by unfold wBlk wS; omega)).trans (k8 q hq)
  · exact (S _ (by unfold wBlk wK; omega)).trans (k9 q hq)
theorem isW.kept {P : Nat → Prop} (k : isW h w c C nm g) (S : Same P h h') (hP : ∀ b, wBlk w b → ¬ P b) : isW h' w c C nm g := by
  obtain ⟨k0, k1, k2, k3, k4, k5, k6, k7, k8, k9⟩ := k
  refine ⟨by rw [S.1]; exact k0, ?_, ?_, ?_, ?_, ?_, fun q hq => ?_, fun q hq => ?_, fun q hq => ?_, fun q hq => ?_⟩
  · exact (S.2.2.2 _ (hP _ (by unfold wBlk; omega))).trans k1
  · exact (S.2.2.2 _ (hP _ (by unfold wBlk wA; omega))).trans k2
  · exact (S.2.2.2 _ (hP _ (by unfold wBlk wA; omega))).trans k3
  · exact (S.2.2.2 _ (hP _ (by unfold wBlk wA; omega))).trans k4
  · exact (S.2.2.2 _ (hP _ (by unfold wBlk wA; omega))).trans k5
  · have := iAd_r (k := q)
    exact (k6 q hq).kept S (hP _ (by unfold wBlk wA; omega)) (hP _ (by unfold wBlk wA; omega))
  · exact (S.2.2.2 _ (hP _ (by unfold wBlk wT; omega))).trans (k7 q hq)
  · exact (S.2.2.2 _ (hP _ (by unfold wBlk wS; omega))).trans (k8 q hq)
  · exact (S.2.2.2 _ (hP _ (by unfold wBlk wK; omega))).trans (k9 q hq)
theorem isW.ofI (k : isW h w c C nm g) {j : Nat} (hj : j < 6) {z : Int} {f : Nat → Int} (S : Same (iBlk (wA w (iAd j))) h h') (hI : isI h' (wA w (iAd j)) (iRm j) z f) : isW h' w (updI c (8 + j) z) (updC C j f) nm g := by
  have hr := iAd_r (k := j)
  obtain ⟨k0, k1, k2, k3, k4, k5, k6, k7, k8, k9⟩ := k
  have nb : ∀ b, b ≠ wA w (iAd j) → b ≠ wA w (iAd j) + 1 → hGet h' b = hGet h b := fun b h1 h2 => S.2.2.2 b (fun q => q.elim h1 h2)
  refine ⟨by rw [S.1]; exact k0, ?_, ?_, ?_, ?_, ?_, fun q hq => ?_, fun q hq => ?_, fun q hq => ?_, fun q hq => ?_⟩
  · rw [nb _ (by unfold wA; omega) (by unfold wA; omega), k1]; unfold wFs; rw [updI_n (by omega), updI_n (by omega), updI_n (by omega), updI_n (by omega)]
  · exact (nb _ (by unfold wA; omega) (by unfold wA; omega)).trans k2
  · exact (nb _ (by unfold wA; omega) (by unfold wA; omega)).trans k3
  · exact (nb _ (by unfold wA; omega) (by unfold wA; omega)).trans k4
  · rw [nb _ (by unfold wA; omega) (by unfold wA; omega), k5]; unfold uFs; rw [updI_n (by omega)]
  · by_cases e : q = j
    · subst e
      rw [updI_s, updC_s]; exact hI
    · have := iAd_d q hq j hj e
      rw [updI_n (by omega), updC_n e]
      exact (k6 q hq).kept S (fun x => by unfold iBlk wA at x; omega) (fun x => by unfold iBlk wA at x; omega)
  · rw [nb _ (by unfold wA wT; omega) (by unfold wA wT; omega), k7 q hq]; unfold tFs; rw [updI_n (by omega), updI_n (by omega), updI_n (by omega)]
  · rw [nb _ (by unfold wA wS; omega) (by unfold wA wS; omega), k8 q hq]; unfold sFs; rw [updI_n (by omega), updI_n (by omega), updI_n (by omega)]
  · rw [nb _ (by unfold wA wK; omega) (by unfold wA wK; omega), k9 q hq]; unfold kFs; rw [updI_n (by omega), updI_n (by omega), updI_n (by omega), updI_n (by omega), updI_n (by omega), updI_n (by omega), updI_n (by omega), updI_n (by omega), updI_n (by omega)]
theorem iBlk_wBlk {j : Nat} {b : Nat} (k : iBlk (wA w (iAd j)) b) : wBlk w b := by
  have hr := iAd_r (k := j)
  unfold iBlk wA at k; unfold wBlk; omega
theorem isW.putw0 (k : isW h w c C nm g) (v : Int) : isW (hPut h w (.inl (9, (wFs w c).set 3 (.int (J v))))) w (updI c 0 v) C nm g := by
  obtain ⟨k0, k1, k2, k3, k4, k5, k6, k7, k8, k9⟩ := k
  refine ⟨k0, ?_, ?_, ?_, ?_, ?_, fun q hq => ?_, fun q hq => ?_, fun q hq => ?_, fun q hq => ?_⟩
  · rw [hGet_put_self]; unfold wFs; simp [updI, List.set]
  · exact hGet_put_ne (by unfold wA; omega) k2
  · exact hGet_put_ne (by unfold wA; omega) k3
  · exact hGet_put_ne (by unfold wA; omega) k4
  · rw [hGet_put_ne (by unfold wA; omega) k5]; unfold uFs; rw [updI_n (by omega)]
  · have hr := iAd_r (k := q)
    rw [updI_n (by omega)]; exact ⟨(k6 q hq).lo, hGet_put_ne (by unfold wA; omega) (k6 q hq).gx, hGet_put_ne (by unfold wA; omega) (k6 q hq).gc⟩
  · rw [hGet_put_ne (by unfold wT; omega) (k7 q hq)]; unfold tFs; rw [updI_n (by omega), updI_n (by omega), updI_n (by omega)]
  · rw [hGet_put_ne (by unfold wS; omega) (k8 q hq)]; unfold sFs; rw [updI_n (by omega), updI_n (by omega), updI_n (by omega)]
  · rw [hGet_put_ne (by unfold wK; omega) (k9 q hq)]; unfold kFs; rw [updI_n (by omega), updI_n (by omega), updI_n (by omega), updI_n (by omega), updI_n (by omega), updI_n (by omega), updI_n (by omega), updI_n (by omega), updI_n (by omega)]
theorem isW.putw1 (k : isW h w c C nm g) (v : Int) : isW (hPut h w (.inl (9, (wFs w c).set 4 (.int (J v))))) w (updI c 1 v) C nm g := by
  obtain ⟨k0, k1, k2, k3, k4, k5, k6, k7, k8, k9⟩ := k
  refine ⟨k0, ?_, ?_, ?_, ?_, ?_, fun q hq => ?_, fun q hq => ?_, fun q hq => ?_, fun q hq => ?_⟩
  · rw [hGet_put_self]; unfold wFs; simp [updI, List.set]
  · exact hGet_put_ne (by unfold wA; omega) k2
  · exact hGet_put_ne (by unfold wA; omega) k3
  · exact hGet_put_ne (by unfold wA; omega) k4
  · rw [hGet_put_ne (by unfold wA; omega) k5]; unfold uFs; rw [updI_n (by omega)]
  · have hr := iAd_r (k := q)
    rw [updI_n (by omega)]; exact ⟨(k6 q hq).lo, hGet_put_ne (by unfold wA; omega) (k6 q hq).gx, hGet_put_ne (by unfold wA; omega) (k6 q hq).gc⟩
  · rw [hGet_put_ne (by unfold wT; omega) (k7 q hq)]; unfold tFs; rw [updI_n (by omega), updI_n (by omega), updI_n (by omega)]
  · rw [hGet_put_ne (by unfold wS; omega) (k8 q hq)]; unfold sFs; rw [updI_n (by omega), updI_n (by omega), updI_n (by omega)]
  · rw [hGet_put_ne (by unfold wK; omega) (k9 q hq)]; unfold kFs; rw [updI_n (by omega), updI_n (by omega), updI_n (by omega), updI_n (by omega), updI_n (by omega), updI_n (by omega), updI_n (by omega), updI_n (by omega), updI_n (by omega)]
theorem isW.putw2 (k : isW h w c C nm g) (v : Int) : isW (hPut h w (.inl (9, (wFs w c).set 5 (.int (J v))))) w (updI c 2 v) C nm g := by
  obtain ⟨k0, k1, k2, k3, k4, k5, k6, k7, k8, k9⟩ := k
  refine ⟨k0, ?_, ?_, ?_, ?_, ?_, fun q hq => ?_, fun q hq => ?_, fun q hq => ?_, fun q hq => ?_⟩
  · rw [hGet_put_self]; unfold wFs; simp [updI, List.set]
  · exact hGet_put_ne (by unfold wA; omega) k2
  · exact hGet_put_ne (by unfold wA; omega) k3
  · exact hGet_put_ne (by unfold wA; omega) k4
  · rw [hGet_put_ne (by unfold wA; omega) k5]; unfold uFs; rw [updI_n (by omega)]
  · have hr := iAd_r (k := q)
    rw [updI_n (by omega)]; exact ⟨(k6 q hq).lo, hGet_put_ne (by unfold wA; omega) (k6 q hq).gx, hGet_put_ne (by unfold wA; omega) (k6 q hq).gc⟩
  · rw [hGet_put_ne (by unfold wT; omega) (k7 q hq)]; unfold tFs; rw [updI_n (by omega), updI_n (by omega), updI_n (by omega)]
  · rw [hGet_put_ne (by unfold wS; omega) (k8 q hq)]; unfold sFs; rw [updI_n (by omega), updI_n (by omega), updI_n (by omega)]
  · rw [hGet_put_ne (by unfold wK; omega) (k9 q hq)]; unfold kFs; rw [updI_n (by omega), updI_n (by omega), updI_n (by omega), updI_n (by omega), updI_n (by omega), updI_n (by omega), updI_n (by omega), updI_n (by omega), updI_n (by omega)]
theorem isW.putw3 (k : isW h w c C nm g) (v : Int) : isW (hPut h w (.inl (9, (wFs w c).set 6 (.int (J v))))) w (updI c 3 v) C nm g := by
  obtain ⟨k0, k1, k2, k3, k4, k5, k6, k7, k8, k9⟩ := k
  refine ⟨k0, ?_, ?_, ?_, ?_, ?_, fun q hq => ?_, fun q hq => ?_, fun q hq => ?_, fun q hq => ?_⟩
  · rw [hGet_put_self]; unfold wFs; simp [updI, List.set]
  · exact hGet_put_ne (by unfold wA; omega) k2
  · exact hGet_put_ne (by unfold wA; omega) k3
  · exact hGet_put_ne (by unfold wA; omega) k4
  · rw [hGet_put_ne (by unfold wA; omega) k5]; unfold uFs; rw [updI_n (by omega)]
  · have hr := iAd_r (k := q)
    rw [updI_n (by omega)]; exact ⟨(k6 q hq).lo, hGet_put_ne (by unfold wA; omega) (k6 q hq).gx, hGet_put_ne (by unfold wA; omega) (k6 q hq).gc⟩
  · rw [hGet_put_ne (by unfold wT; omega) (k7 q hq)]; unfold tFs; rw [updI_n (by omega), updI_n (by omega), updI_n (by omega)]
  · rw [hGet_put_ne (by unfold wS; omega) (k8 q hq)]; unfold sFs; rw [updI_n (by omega), updI_n (by omega), updI_n (by omega)]
  · rw [hGet_put_ne (by unfold wK; omega) (k9 q hq)]; unfold kFs; rw [updI_n (by omega), updI_n (by omega), updI_n (by omega), updI_n (by omega), updI_n (by omega), updI_n (by omega), updI_n (by omega), updI_n (by omega), updI_n (by omega)]
theorem isW.putF (k : isW h w c C nm g) (v : Int) : isW (hPut h (wA w 10) (.inl (0, (uFs w c).set 3 (.int (J v))))) w (updI c 4 v) C nm g := by
  obtain ⟨k0, k1, k2, k3, k4, k5, k6, k7, k8, k9⟩ := k
  refine ⟨k0, ?_, ?_, ?_, ?_, ?_, fun q hq => ?_, fun q hq => ?_, fun q hq => ?_, fun q hq => ?_⟩
  · rw [hGet_put_ne (by unfold wA; omega) k1]; unfold wFs; rw [updI_n (by omega), updI_n (by omega), updI_n (by omega), updI_n (by omega)]
  · exact hGet_put_ne (by unfold wA; omega) k2
  · exact hGet_put_ne (by unfold wA; omega) k3
  · exact hGet_put_ne (by unfold wA; omega) k4
  · rw [hGet_put_self]; unfold uFs; simp [updI, List.set]
  · have hr := iAd_r (k := q)
    rw [updI_n (by omega)]; exact ⟨(k6 q hq).lo, hGet_put_ne (by unfold wA; omega) (k6 q hq).gx, hGet_put_ne (by unfold wA; omega) (k6 q hq).gc⟩
  · rw [hGet_put_ne (by unfold wA wT; omega) (k7 q hq)]; unfold tFs; rw [updI_n (by omega), updI_n (by omega), updI_n (by omega)]
  · rw [hGet_put_ne (by unfold wA wS; omega) (k8 q hq)]; unfold sFs; rw [updI_n (by omega), updI_n (by omega), updI_n (by omega)]
  · rw [hGet_put_ne (by unfold wA wK; omega) (k9 q hq)]; unfold kFs; rw [updI_n (by omega), updI_n (by omega), updI_n (by omega), updI_n (by omega), updI_n (by omega), updI_n (by omega), updI_n (by omega), updI_n (by omega), updI_n (by omega)]
theorem isW.putT0 (k : isW h w c C nm g) {q0 : Nat} (hq0 : q0 < 90) (r : Int64) : isW (hPut h (wT w q0) (.inl (8, (tFs c nm g q0).set 0 (.long r)))) w c C (updL nm q0 r) g := by
  obtain ⟨k0, k1, k2, k3, k4, k5, k6, k7, k8, k9⟩ := k
  refine ⟨k0, ?_, ?_, ?_, ?_, ?_, fun q hq => ?_, fun q hq => ?_, fun q hq => ?_, fun q hq => ?_⟩
  · rw [hGet_put_ne (by unfold wT; omega) k1]
  · exact hGet_put_ne (by unfold wA wT; omega) k2
  · exact hGet_put_ne (by unfold wA wT; omega) k3
  · exact hGet_put_ne (by unfold wA wT; omega) k4
  · rw [hGet_put_ne (by unfold wA wT; omega) k5]
  · have hr := iAd_r (k := q)
    exact ⟨(k6 q hq).lo, hGet_put_ne (by unfold wA wT; omega) (k6 q hq).gx, hGet_put_ne (by unfold wA wT; omega) (k6 q hq).gc⟩
  · by_cases e : q = q0
    · subst e
      rw [hGet_put_self]; unfold tFs
      simp [updI, updO, updL, List.set]
    · rw [hGet_put_ne (by unfold wT; omega) (k7 q hq)]; unfold tFs; rw [updL_n (by omega)]
  · rw [hGet_put_ne (by unfold wS wT; omega) (k8 q hq)]
  · rw [hGet_put_ne (by unfold wK wT; omega) (k9 q hq)]
theorem isW.putT1 (k : isW h w c C nm g) {q0 : Nat} (hq0 : q0 < 90) (r : Option Nat) : isW (hPut h (wT w q0) (.inl (8, (tFs c nm g q0).set 1 (va_rf r)))) w c C nm (updO g (2 * q0) r) := by
  obtain ⟨k0, k1, k2, k3, k4, k5, k6, k7, k8, k9⟩ := k
  refine ⟨k0, ?_, ?_, ?_, ?_, ?_, fun q hq => ?_, fun q hq => ?_, fun q hq => ?_, fun q hq => ?_⟩
  · rw [hGet_put_ne (by unfold wT; omega) k1]
  · exact hGet_put_ne (by unfold wA wT; omega) k2
  · exact hGet_put_ne (by unfold wA wT; omega) k3
  · exact hGet_put_ne (by unfold wA wT; omega) k4
  · rw [hGet_put_ne (by unfold wA wT; omega) k5]
  · have hr := iAd_r (k := q)
    exact ⟨(k6 q hq).lo, hGet_put_ne (by unfold wA wT; omega) (k6 q hq).gx, hGet_put_ne (by unfold wA wT; omega) (k6 q hq).gc⟩
  · by_cases e : q = q0
    · subst e
      rw [hGet_put_self]; unfold tFs
      simp [updI, updO, updL, List.set]
    · rw [hGet_put_ne (by unfold wT; omega) (k7 q hq)]; unfold tFs; rw [updO_n (by omega), updO_n (by omega)]
  · rw [hGet_put_ne (by unfold wS wT; omega) (k8 q hq)]
  · rw [hGet_put_ne (by unfold wK wT; omega) (k9 q hq)]; unfold kFs; rw [updO_n (by omega), updO_n (by omega)]
theorem isW.putT2 (k : isW h w c C nm g) {q0 : Nat} (hq0 : q0 < 90) (r : Option Nat) : isW (hPut h (wT w q0) (.inl (8, (tFs c nm g q0).set 2 (va_rf r)))) w c C nm (updO g (2 * q0 + 1) r) := by
  obtain ⟨k0, k1, k2, k3, k4, k5, k6, k7, k8, k9⟩ := k
  refine ⟨k0, ?_, ?_, ?_, ?_, ?_, fun q hq => ?_, fun q hq => ?_, fun q hq => ?_, fun q hq => ?_⟩
  · rw [hGet_put_ne (by unfold wT; omega) k1]
  · exact hGet_put_ne (by unfold wA wT; omega) k2
  · exact hGet_put_ne (by unfold wA wT; omega) k3
  · exact hGet_put_ne (by unfold wA wT; omega) k4
  · rw [hGet_put_ne (by unfold wA wT; omega) k5]
  · have hr := iAd_r (k := q)
    exact ⟨(k6 q hq).lo, hGet_put_ne (by unfold wA wT; omega) (k6 q hq).gx, hGet_put_ne (by unfold wA wT; omega) (k6 q hq).gc⟩
  · by_cases e : q = q0
    · subst e
      rw [hGet_put_self]; unfold tFs
      simp [updI, updO, updL, List.set]
    · rw [hGet_put_ne (by unfold wT; omega) (k7 q hq)]; unfold tFs; rw [updO_n (by omega), updO_n (by omega)]
  · rw [hGet_put_ne (by unfold wS wT; omega) (k8 q hq)]
  · rw [hGet_put_ne (by unfold wK wT; omega) (k9 q hq)]; unfold kFs; rw [updO_n (by omega), updO_n (by omega)]
theorem isW.putT3 (k : isW h w c C nm g) {q0 : Nat} (hq0 : q0 < 90) (v : Int) : isW (hPut h (wT w q0) (.inl (8, (tFs c nm g q0).set 3 (.int (J v))))) w (updI c (32 + 3 * q0) v) C nm g := by
  obtain ⟨k0, k1, k2, k3, k4, k5, k6, k7, k8, k9⟩ := k
  refine ⟨k0, ?_, ?_, ?_, ?_, ?_, fun q hq => ?_, fun q hq => ?_, fun q hq => ?_, fun q hq => ?_⟩
  · rw [hGet_put_ne (by unfold wT; omega) k1]; unfold wFs; rw [updI_n (by omega), updI_n (by omega), updI_n (by omega), updI_n (by omega)]
  · exact hGet_put_ne (by unfold wA wT; omega) k2
  · exact hGet_put_ne (by unfold wA wT; omega) k3
  · exact hGet_put_ne (by unfold wA wT; omega) k4
  · rw [hGet_put_ne (by unfold wA wT; omega) k5]; unfold uFs; rw [updI_n (by omega)]
  · have hr := iAd_r (k := q)
    rw [updI_n (by omega)]; exact ⟨(k6 q hq).lo, hGet_put_ne (by unfold wA wT; omega) (k6 q hq).gx, hGet_put_ne (by unfold wA wT; omega) (k6 q hq).gc⟩
  · by_cases e : q = q0
    · subst e
      rw [hGet_put_self]; unfold tFs
      simp [updI, updO, updL, List.set]
    · rw [hGet_put_ne (by unfold wT; omega) (k7 q hq)]; unfold tFs; rw [updI_n (by omega), updI_n (by omega), updI_n (by omega)]
  · rw [hGet_put_ne (by unfold wS wT; omega) (k8 q hq)]; unfold sFs; rw [updI_n (by omega), updI_n (by omega), updI_n (by omega)]
  · rw [hGet_put_ne (by unfold wK wT; omega) (k9 q hq)]; unfold kFs; rw [updI_n (by omega), updI_n (by omega), updI_n (by omega), updI_n (by omega), updI_n (by omega), updI_n (by omega), updI_n (by omega), updI_n (by omega), updI_n (by omega)]
theorem isW.putT4 (k : isW h w c C nm g) {q0 : Nat} (hq0 : q0 < 90) (v : Int) : isW (hPut h (wT w q0) (.inl (8, (tFs c nm g q0).set 4 (.int (J v))))) w (updI c (33 + 3 * q0) v) C nm g := by
  obtain ⟨k0, k1, k2, k3, k4, k5, k6, k7, k8, k9⟩ := k
  refine ⟨k0, ?_, ?_, ?_, ?_, ?_, fun q hq => ?_, fun q hq => ?_, fun q hq => ?_, fun q hq => ?_⟩
  · rw [hGet_put_ne (by unfold wT; omega) k1]; unfold wFs; rw [updI_n (by omega), updI_n (by omega), updI_n (by omega), updI_n (by omega)]
  · exact hGet_put_ne (by unfold wA wT; omega) k2
  · exact hGet_put_ne (by unfold wA wT; omega) k3
  · exact hGet_put_ne (by unfold wA wT; omega) k4
  · rw [hGet_put_ne (by unfold wA wT; omega) k5]; unfold uFs; rw [updI_n (by omega)]
  · have hr := iAd_r (k := q)
    rw [updI_n (by omega)]; exact ⟨(k6 q hq).lo, hGet_put_ne (by unfold wA wT; omega) (k6 q hq).gx, hGet_put_ne (by unfold wA wT; omega) (k6 q hq).gc⟩
  · by_cases e : q = q0
    · subst e
      rw [hGet_put_self]; unfold tFs
      simp [updI, updO, updL, List.set]
    · rw [hGet_put_ne (by unfold wT; omega) (k7 q hq)]; unfold tFs; rw [updI_n (by omega), updI_n (by omega), updI_n (by omega)]
  · rw [hGet_put_ne (by unfold wS wT; omega) (k8 q hq)]; unfold sFs; rw [updI_n (by omega), updI_n (by omega), updI_n (by omega)]
  · rw [hGet_put_ne (by unfold wK wT; omega) (k9 q hq)]; unfold kFs; rw [updI_n (by omega), updI_n (by omega), updI_n (by omega), updI_n (by omega), updI_n (by omega), updI_n (by omega), updI_n (by omega), updI_n (by omega), updI_n (by omega)]
theorem isW.putT5 (k : isW h w c C nm g) {q0 : Nat} (hq0 : q0 < 90) (v : Int) : isW (hPut h (wT w q0) (.inl (8, (tFs c nm g q0).set 5 (.int (J v))))) w (updI c (34 + 3 * q0) v) C nm g := by
  obtain ⟨k0, k1, k2, k3, k4, k5, k6, k7, k8, k9⟩ := k
  refine ⟨k0, ?_, ?_, ?_, ?_, ?_, fun q hq => ?_, fun q hq => ?_, fun q hq => ?_, fun q hq => ?_⟩
  · rw [hGet_put_ne (by unfold wT; omega) k1]; unfold wFs; rw [updI_n (by omega), updI_n (by omega), updI_n (by omega), updI_n (by omega)]
  · exact hGet_put_ne (by unfold wA wT; omega) k2
  · exact hGet_put_ne (by unfold wA wT; omega) k3
  · exact hGet_put_ne (by unfold wA wT; omega) k4
  · rw [hGet_put_ne (by unfold wA wT; omega) k5]; unfold uFs; rw [updI_n (by omega)]
  · have hr := iAd_r (k := q)
    rw [updI_n (by omega)]; exact ⟨(k6 q hq).lo, hGet_put_ne (by unfold wA wT; omega) (k6 q hq).gx, hGet_put_ne (by unfold wA wT; omega) (k6 q hq).gc⟩
  · by_cases e : q = q0
    · subst e
      rw [hGet_put_self]; unfold tFs
      simp [updI, updO, updL, List.set]
    · rw [hGet_put_ne (by unfold wT; omega) (k7 q hq)]; unfold tFs; rw [updI_n (by omega), updI_n (by omega), updI_n (by omega)]
  · rw [hGet_put_ne (by unfold wS wT; omega) (k8 q hq)]; unfold sFs; rw [updI_n (by omega), updI_n (by omega), updI_n (by omega)]
  · rw [hGet_put_ne (by unfold wK wT; omega) (k9 q hq)]; unfold kFs; rw [updI_n (by omega), updI_n (by omega), updI_n (by omega), updI_n (by omega), updI_n (by omega), updI_n (by omega), updI_n (by omega), updI_n (by omega), updI_n (by omega)]
theorem isW.putS0 (k : isW h w c C nm g) {q0 : Nat} (hq0 : q0 < 60) (v : Int) : isW (hPut h (wS w q0) (.inl (4, (sFs c q0).set 0 (.int (J v))))) w (updI c (304 + 3 * q0) v) C nm g := by
  obtain ⟨k0, k1, k2, k3, k4, k5, k6, k7, k8, k9⟩ := k
  refine ⟨k0, ?_, ?_, ?_, ?_, ?_, fun q hq => ?_, fun q hq => ?_, fun q hq => ?_, fun q hq => ?_⟩
  · rw [hGet_put_ne (by unfold wS; omega) k1]; unfold wFs; rw [updI_n (by omega), updI_n (by omega), updI_n (by omega), updI_n (by omega)]
  · exact hGet_put_ne (by unfold wA wS; omega) k2
  · exact hGet_put_ne (by unfold wA wS; omega) k3
  · exact hGet_put_ne (by unfold wA wS; omega) k4
  · rw [hGet_put_ne (by unfold wA wS; omega) k5]; unfold uFs; rw [updI_n (by omega)]
  · have hr := iAd_r (k := q)
    rw [updI_n (by omega)]; exact ⟨(k6 q hq).lo, hGet_put_ne (by unfold wA wS; omega) (k6 q hq).gx, hGet_put_ne (by unfold wA wS; omega) (k6 q hq).gc⟩
  · rw [hGet_put_ne (by unfold wS wT; omega) (k7 q hq)]; unfold tFs; rw [updI_n (by omega), updI_n (by omega), updI_n (by omega)]
  · by_cases e : q = q0
    · subst e
      rw [hGet_put_self]; unfold sFs
      simp [updI, updO, updL, List.set]
    · rw [hGet_put_ne (by unfold wS; omega) (k8 q hq)]; unfold sFs; rw [updI_n (by omega), updI_n (by omega), updI_n (by omega)]
  · rw [hGet_put_ne (by unfold wK wS; omega) (k9 q hq)]; unfold kFs; rw [updI_n (by omega), updI_n (by omega), updI_n (by omega), updI_n (by omega), updI_n (by omega), updI_n (by omega), updI_n (by omega), updI_n (by omega), updI_n (by omega)]
theorem isW.putS1 (k : isW h w c C nm g) {q0 : Nat} (hq0 : q0 < 60) (v : Int) : isW (hPut h (wS w q0) (.inl (4, (sFs c q0).set 1 (.int (J v))))) w (updI c (305 + 3 * q0) v) C nm g := by
  obtain ⟨k0, k1, k2, k3, k4, k5, k6, k7, k8, k9⟩ := k
  refine ⟨k0, ?_, ?_, ?_, ?_, ?_, fun q hq => ?_, fun q hq => ?_, fun q hq => ?_, fun q hq => ?_⟩
  · rw [hGet_put_ne (by unfold wS; omega) k1]; unfold wFs; rw [updI_n (by omega), updI_n (by omega), updI_n (by omega), updI_n (by omega)]
  · exact hGet_put_ne (by unfold wA wS; omega) k2
  · exact hGet_put_ne (by unfold wA wS; omega) k3
  · exact hGet_put_ne (by unfold wA wS; omega) k4
  · rw [hGet_put_ne (by unfold wA wS; omega) k5]; unfold uFs; rw [updI_n (by omega)]
  · have hr := iAd_r (k := q)
    rw [updI_n (by omega)]; exact ⟨(k6 q hq).lo, hGet_put_ne (by unfold wA wS; omega) (k6 q hq).gx, hGet_put_ne (by unfold wA wS; omega) (k6 q hq).gc⟩
  · rw [hGet_put_ne (by unfold wS wT; omega) (k7 q hq)]; unfold tFs; rw [updI_n (by omega), updI_n (by omega), updI_n (by omega)]
  · by_cases e : q = q0
    · subst e
      rw [hGet_put_self]; unfold sFs
      simp [updI, updO, updL, List.set]
    · rw [hGet_put_ne (by unfold wS; omega) (k8 q hq)]; unfold sFs; rw [updI_n (by omega), updI_n (by omega), updI_n (by omega)]
  · rw [hGet_put_ne (by unfold wK wS; omega) (k9 q hq)]; unfold kFs; rw [updI_n (by omega), updI_n (by omega), updI_n (by omega), updI_n (by omega), updI_n (by omega), updI_n (by omega), updI_n (by omega), updI_n (by omega), updI_n (by omega)]
theorem isW.putS2 (k : isW h w c C nm g) {q0 : Nat} (hq0 : q0 < 60) (v : Int) : isW (hPut h (wS w q0) (.inl (4, (sFs c q0).set 2 (.int (J v))))) w (updI c (306 + 3 * q0) v) C nm g := by
  obtain ⟨k0, k1, k2, k3, k4, k5, k6, k7, k8, k9⟩ := k
  refine ⟨k0, ?_, ?_, ?_, ?_, ?_, fun q hq => ?_, fun q hq => ?_, fun q hq => ?_, fun q hq => ?_⟩
  · rw [hGet_put_ne (by unfold wS; omega) k1]; unfold wFs; rw [updI_n (by omega), updI_n (by omega), updI_n (by omega), updI_n (by omega)]
  · exact hGet_put_ne (by unfold wA wS; omega) k2
  · exact hGet_put_ne (by unfold wA wS; omega) k3
  · exact hGet_put_ne (by unfold wA wS; omega) k4
  · rw [hGet_put_ne (by unfold wA wS; omega) k5]; unfold uFs; rw [updI_n (by omega)]
  · have hr := iAd_r (k := q)
    rw [updI_n (by omega)]; exact ⟨(k6 q hq).lo, hGet_put_ne (by unfold wA wS; omega) (k6 q hq).gx, hGet_put_ne (by unfold wA wS; omega) (k6 q hq).gc⟩
  · rw [hGet_put_ne (by unfold wS wT; omega) (k7 q hq)]; unfold tFs; rw [updI_n (by omega), updI_n (by omega), updI_n (by omega)]
  · by_cases e : q = q0
    · subst e
      rw [hGet_put_self]; unfold sFs
      simp [updI, updO, updL, List.set]
    · rw [hGet_put_ne (by unfold wS; omega) (k8 q hq)]; unfold sFs; rw [updI_n (by omega), updI_n (by omega), updI_n (by omega)]
  · rw [hGet_put_ne (by unfold wK wS; omega) (k9 q hq)]; unfold kFs; rw [updI_n (by omega), updI_n (by omega), updI_n (by omega), updI_n (by omega), updI_n (by omega), updI_n (by omega), updI_n (by omega), updI_n (by omega), updI_n (by omega)]
theorem isW.putK0 (k : isW h w c C nm g) {q0 : Nat} (hq0 : q0 < 10) (r : Option Nat) : isW (hPut h (wK w q0) (.inl (7, (kFs c g q0).set 0 (va_rf r)))) w c C nm (updO g (180 + 2 * q0) r) := by
  obtain ⟨k0, k1, k2, k3, k4, k5, k6, k7, k8, k9⟩ := k
  refine ⟨k0, ?_, ?_, ?_, ?_, ?_, fun q hq => ?_, fun q hq => ?_, fun q hq => ?_, fun q hq => ?_⟩
  · rw [hGet_put_ne (by unfold wK; omega) k1]
  · exact hGet_put_ne (by unfold wA wK; omega) k2
  · exact hGet_put_ne (by unfold wA wK; omega) k3
  · exact hGet_put_ne (by unfold wA wK; omega) k4
  · rw [hGet_put_ne (by unfold wA wK; omega) k5]
  · have hr := iAd_r (k := q)
    exact ⟨(k6 q hq).lo, hGet_put_ne (by unfold wA wK; omega) (k6 q hq).gx, hGet_put_ne (by unfold wA wK; omega) (k6 q hq).gc⟩
  · rw [hGet_put_ne (by unfold wK wT; omega) (k7 q hq)]; unfold tFs; rw [updO_n (by omega), updO_n (by omega)]
  · rw [hGet_put_ne (by unfold wK wS; omega) (k8 q hq)]
  · by_cases e : q = q0
    · subst e
      rw [hGet_put_self]; unfold kFs
      simp [updI, updO, updL, List.set]
    · rw [hGet_put_ne (by unfold wK; omega) (k9 q hq)]; unfold kFs; rw [updO_n (by omega), updO_n (by omega)]
theorem isW.putK1 (k : isW h w c C nm g) {q0 : Nat} (hq0 : q0 < 10) (r : Option Nat) : isW (hPut h (wK w q0) (.inl (7, (kFs c g q0).set 1 (va_rf r)))) w c C nm (updO g (181 + 2 * q0) r) := by
  obtain ⟨k0, k1, k2, k3, k4, k5, k6, k7, k8, k9⟩ := k
  refine ⟨k0, ?_, ?_, ?_, ?_, ?_, fun q hq => ?_, fun q hq => ?_, fun q hq => ?_, fun q hq => ?_⟩
  · rw [hGet_put_ne (by unfold wK; omega) k1]
  · exact hGet_put_ne (by unfold wA wK; omega) k2
  · exact hGet_put_ne (by unfold wA wK; omega) k3
  · exact hGet_put_ne (by unfold wA wK; omega) k4
  · rw [hGet_put_ne (by unfold wA wK; omega) k5]
  · have hr := iAd_r (k := q)
    exact ⟨(k6 q hq).lo, hGet_put_ne (by unfold wA wK; omega) (k6 q hq).gx, hGet_put_ne (by unfold wA wK; omega) (k6 q hq).gc⟩
  · rw [hGet_put_ne (by unfold wK wT; omega) (k7 q hq)]; unfold tFs; rw [updO_n (by omega), updO_n (by omega)]
  · rw [hGet_put_ne (by unfold wK wS; omega) (k8 q hq)]
  · by_cases e : q = q0
    · subst e
      rw [hGet_put_self]; unfold kFs
      simp [updI, updO, updL, List.set]
    · rw [hGet_put_ne (by unfold wK; omega) (k9 q hq)]; unfold kFs; rw [updO_n (by omega), updO_n (by omega)]
theorem isW.putK2 (k : isW h w c C nm g) {q0 : Nat} (hq0 : q0 < 10) (v : Int) : isW (hPut h (wK w q0) (.inl (7, (kFs c g q0).set 2 (.int (J v))))) w (updI c (488 + 9 * q0) v) C nm g := by
  obtain ⟨k0, k1, k2, k3, k4, k5, k6, k7, k8, k9⟩ := k
  refine ⟨k0, ?_, ?_, ?_, ?_, ?_, fun q hq => ?_, fun q hq => ?_, fun q hq => ?_, fun q hq => ?_⟩
  · rw [hGet_put_ne (by unfold wK; omega) k1]; unfold wFs; rw [updI_n (by omega), updI_n (by omega), updI_n (by omega), updI_n (by omega)]
  · exact hGet_put_ne (by unfold wA wK; omega) k2
  · exact hGet_put_ne (by unfold wA wK; omega) k3
  · exact hGet_put_ne (by unfold wA wK; omega) k4
  · rw [hGet_put_ne (by unfold wA wK; omega) k5]; unfold uFs; rw [updI_n (by omega)]
  · have hr := iAd_r (k := q)
    rw [updI_n (by omega)]; exact ⟨(k6 q hq).lo, hGet_put_ne (by unfold wA wK; omega) (k6 q hq).gx, hGet_put_ne (by unfold wA wK; omega) (k6 q hq).gc⟩
  · rw [hGet_put_ne (by unfold wK wT; omega) (k7 q hq)]; unfold tFs; rw [updI_n (by omega), updI_n (by omega), updI_n (by omega)]
  · rw [hGet_put_ne (by unfold wK wS; omega) (k8 q hq)]; unfold sFs; rw [updI_n (by omega), updI_n (by omega), updI_n (by omega)]
  · by_cases e : q = q0
    · subst e
      rw [hGet_put_self]; unfold kFs
      simp [updI, updO, updL, List.set]
    · rw [hGet_put_ne (by unfold wK; omega) (k9 q hq)]; unfold kFs; rw [updI_n (by omega), updI_n (by omega), updI_n (by omega), updI_n (by omega), updI_n (by omega), updI_n (by omega), updI_n (by omega), updI_n (by omega), updI_n (by omega)]
theorem isW.putK3 (k : isW h w c C nm g) {q0 : Nat} (hq0 : q0 < 10) (v : Int) : isW (hPut h (wK w q0) (.inl (7, (kFs c g q0).set 3 (.int (J v))))) w (updI c (489 + 9 * q0) v) C nm g := by
  obtain ⟨k0, k1, k2, k3, k4, k5, k6, k7, k8, k9⟩ := k
  refine ⟨k0, ?_, ?_, ?_, ?_, ?_, fun q hq => ?_, fun q hq => ?_, fun q hq => ?_, fun q hq => ?_⟩
  · rw [hGet_put_ne (by unfold wK; omega) k1]; unfold wFs; rw [updI_n (by omega), updI_n (by omega), updI_n (by omega), updI_n (by omega)]
  · exact hGet_put_ne (by unfold wA wK; omega) k2
  · exact hGet_put_ne (by unfold wA wK; omega) k3
  · exact hGet_put_ne (by unfold wA wK; omega) k4
  · rw [hGet_put_ne (by unfold wA wK; omega) k5]; unfold uFs; rw [updI_n (by omega)]
  · have hr := iAd_r (k := q)
    rw [updI_n (by omega)]; exact ⟨(k6 q hq).lo, hGet_put_ne (by unfold wA wK; omega) (k6 q hq).gx, hGet_put_ne (by unfold wA wK; omega) (k6 q hq).gc⟩
  · rw [hGet_put_ne (by unfold wK wT; omega) (k7 q hq)]; unfold tFs; rw [updI_n (by omega), updI_n (by omega), updI_n (by omega)]
  · rw [hGet_put_ne (by unfold wK wS; omega) (k8 q hq)]; unfold sFs; rw [updI_n (by omega), updI_n (by omega), updI_n (by omega)]
  · by_cases e : q = q0
    · subst e
      rw [hGet_put_self]; unfold kFs
      simp [updI, updO, updL, List.set]
    · rw [hGet_put_ne (by unfold wK; omega) (k9 q hq)]; unfold kFs; rw [updI_n (by omega), updI_n (by omega), updI_n (by omega), updI_n (by omega), updI_n (by omega), updI_n (by omega), updI_n (by omega), updI_n (by omega), updI_n (by omega)]
theorem isW.putK4 (k : isW h w c C nm g) {q0 : Nat} (hq0 : q0 < 10) (v : Int) : isW (hPut h (wK w q0) (.inl (7, (kFs c g q0).set 4 (.int (J v))))) w (updI c (490 + 9 * q0) v) C nm g := by
  obtain ⟨k0, k1, k2, k3, k4, k5, k6, k7, k8, k9⟩ := k
  refine ⟨k0, ?_, ?_, ?_, ?_, ?_, fun q hq => ?_, fun q hq => ?_, fun q hq => ?_, fun q hq => ?_⟩
  · rw [hGet_put_ne (by unfold wK; omega) k1]; unfold wFs; rw [updI_n (by omega), updI_n (by omega), updI_n (by omega), updI_n (by omega)]
  · exact hGet_put_ne (by unfold wA wK; omega) k2
  · exact hGet_put_ne (by unfold wA wK; omega) k3
  · exact hGet_put_ne (by unfold wA wK; omega) k4
  · rw [hGet_put_ne (by unfold wA wK; omega) k5]; unfold uFs; rw [updI_n (by omega)]
  · have hr := iAd_r (k := q)
    rw [updI_n (by omega)]; exact ⟨(k6 q hq).lo, hGet_put_ne (by unfold wA wK; omega) (k6 q hq).gx, hGet_put_ne (by unfold wA wK; omega) (k6 q hq).gc⟩
  · rw [hGet_put_ne (by unfold wK wT; omega) (k7 q hq)]; unfold tFs; rw [updI_n (by omega), updI_n (by omega), updI_n (by omega)]
  · rw [hGet_put_ne (by unfold wK wS; omega) (k8 q hq)]; unfold sFs; rw [updI_n (by omega), updI_n (by omega), updI_n (by omega)]
  · by_cases e : q = q0
    · subst e
      rw [hGet_put_self]; unfold kFs
      simp [updI, updO, updL, List.set]
    · rw [hGet_put_ne (by unfold wK; omega) (k9 q hq)]; unfold kFs; rw [updI_n (by omega), updI_n (by omega), updI_n (by omega), updI_n (by omega), updI_n (by omega), updI_n (by omega), updI_n (by omega), updI_n (by omega), updI_n (by omega)]
theorem isW.putK5 (k : isW h w c C nm g) {q0 : Nat} (hq0 : q0 < 10) (v : Int) : isW (hPut h (wK w q0) (.inl (7, (kFs c g q0).set 5 (.int (J v))))) w (updI c (491 + 9 * q0) v) C nm g := by
  obtain ⟨k0, k1, k2, k3, k4, k5, k6, k7, k8, k9⟩ := k
  refine ⟨k0, ?_, ?_, ?_, ?_, ?_, fun q hq => ?_, fun q hq => ?_, fun q hq => ?_, fun q hq => ?_⟩
  · rw [hGet_put_ne (by unfold wK; omega) k1]; unfold wFs; rw [updI_n (by omega), updI_n (by omega), updI_n (by omega), updI_n (by omega)]
  · exact hGet_put_ne (by unfold wA wK; omega) k2
  · exact hGet_put_ne (by unfold wA wK; omega) k3
  · exact hGet_put_ne (by unfold wA wK; omega) k4
  · rw [hGet_put_ne (by unfold wA wK; omega) k5]; unfold uFs; rw [updI_n (by omega)]
  · have hr := iAd_r (k := q)
    rw [updI_n (by omega)]; exact ⟨(k6 q hq).lo, hGet_put_ne (by unfold wA wK; omega) (k6 q hq).gx, hGet_put_ne (by unfold wA wK; omega) (k6 q hq).gc⟩
  · rw [hGet_put_ne (by unfold wK wT; omega) (k7 q hq)]; unfold tFs; rw [updI_n (by omega), updI_n (by omega), updI_n (by omega)]
  · rw [hGet_put_ne (by unfold wK wS; omega) (k8 q hq)]; unfold sFs; rw [updI_n (by omega), updI_n (by omega), updI_n (by omega)]
  · by_cases e : q = q0
    · subst e
      rw [hGet_put_self]; unfold kFs
      simp [updI, updO, updL, List.set]
    · rw [hGet_put_ne (by unfold wK; omega) (k9 q hq)]; unfold kFs; rw [updI_n (by omega), updI_n (by omega), updI_n (by omega), updI_n (by omega), updI_n (by omega), updI_n (by omega), updI_n (by omega), updI_n (by omega), updI_n (by omega)]
theorem isW.putK6 (k : isW h w c C nm g) {q0 : Nat} (hq0 : q0 < 10) (v : Int) : isW (hPut h (wK w q0) (.inl (7, (kFs c g q0).set 6 (.int (J v))))) w (updI c (492 + 9 * q0) v) C nm g := by
  obtain ⟨k0, k1, k2, k3, k4, k5, k6, k7, k8, k9⟩ := k
  refine ⟨k0, ?_, ?_, ?_, ?_, ?_, fun q hq => ?_, fun q hq => ?_, fun q hq => ?_, fun q hq => ?_⟩
  · rw [hGet_put_ne (by unfold wK; omega) k1]; unfold wFs; rw [updI_n (by omega), updI_n (by omega), updI_n (by omega), updI_n (by omega)]
  · exact hGet_put_ne (by unfold wA wK; omega) k2
  · exact hGet_put_ne (by unfold wA wK; omega) k3
  · exact hGet_put_ne (by unfold wA wK; omega) k4
  · rw [hGet_put_ne (by unfold wA wK; omega) k5]; unfold uFs; rw [updI_n (by omega)]
  · have hr := iAd_r (k := q)
    rw [updI_n (by omega)]; exact ⟨(k6 q hq).lo, hGet_put_ne (by unfold wA wK; omega) (k6 q hq).gx, hGet_put_ne (by unfold wA wK; omega) (k6 q hq).gc⟩
  · rw [hGet_put_ne (by unfold wK wT; omega) (k7 q hq)]; unfold tFs; rw [updI_n (by omega), updI_n (by omega), updI_n (by omega)]
  · rw [hGet_put_ne (by unfold wK wS; omega) (k8 q hq)]; unfold sFs; rw [updI_n (by omega), updI_n (by omega), updI_n (by omega)]
  · by_cases e : q = q0
    · subst e
      rw [hGet_put_self]; unfold kFs
      simp [updI, updO, updL, List.set]
    · rw [hGet_put_ne (by unfold wK; omega) (k9 q hq)]; unfold kFs; rw [updI_n (by omega), updI_n (by omega), updI_n (by omega), updI_n (by omega), updI_n (by omega), updI_n (by omega), updI_n (by omega), updI_n (by omega), updI_n (by omega)]
theorem isW.putK7 (k : isW h w c C nm g) {q0 : Nat} (hq0 : q0 < 10) (v : Int) : isW (hPut h (wK w q0) (.inl (7, (kFs c g q0).set 7 (.int (J v))))) w (updI c (493 + 9 * q0) v) C nm g := by
  obtain ⟨k0, k1, k2, k3, k4, k5, k6, k7, k8, k9⟩ := k
  refine ⟨k0, ?_, ?_, ?_, ?_, ?_, fun q hq => ?_, fun q hq => ?_, fun q hq => ?_, fun q hq => ?_⟩
  · rw [hGet_put_ne (by unfold wK; omega) k1]; unfold wFs; rw [updI_n (by omega), updI_n (by omega), updI_n (by omega), updI_n (by omega)]
  · exact hGet_put_ne (by unfold wA wK; omega) k2
  · exact hGet_put_ne (by unfold wA wK; omega) k3
  · exact hGet_put_ne (by unfold wA wK; omega) k4
  · rw [hGet_put_ne (by unfold wA wK; omega) k5]; unfold uFs; rw [updI_n (by omega)]
  · have hr := iAd_r (k := q)
    rw [updI_n (by omega)]; exact ⟨(k6 q hq).lo, hGet_put_ne (by unfold wA wK; omega) (k6 q hq).gx, hGet_put_ne (by unfold wA wK; omega) (k6 q hq).gc⟩
  · rw [hGet_put_ne (by unfold wK wT; omega) (k7 q hq)]; unfold tFs; rw [updI_n (by omega), updI_n (by omega), updI_n (by omega)]
  · rw [hGet_put_ne (by unfold wK wS; omega) (k8 q hq)]; unfold sFs; rw [updI_n (by omega), updI_n (by omega), updI_n (by omega)]
  · by_cases e : q = q0
    · subst e
      rw [hGet_put_self]; unfold kFs
      simp [updI, updO, updL, List.set]
    · rw [hGet_put_ne (by unfold wK; omega) (k9 q hq)]; unfold kFs; rw [updI_n (by omega), updI_n (by omega), updI_n (by omega), updI_n (by omega), updI_n (by omega), updI_n (by omega), updI_n (by omega), updI_n (by omega), updI_n (by omega)]
theorem isW.putK8 (k : isW h w c C nm g) {q0 : Nat} (hq0 : q0 < 10) (v : Int) : isW (hPut h (wK w q0) (.inl (7, (kFs c g q0).set 8 (.int (J v))))) w (updI c (494 + 9 * q0) v) C nm g := by
  obtain ⟨k0, k1, k2, k3, k4, k5, k6, k7, k8, k9⟩ := k
  refine ⟨k0, ?_, ?_, ?_, ?_, ?_, fun q hq => ?_, fun q hq => ?_, fun q hq => ?_, fun q hq => ?_⟩
  · rw [hGet_put_ne (by unfold wK; omega) k1]; unfold wFs; rw [updI_n (by omega), updI_n (by omega), updI_n (by omega), updI_n (by omega)]
  · exact hGet_put_ne (by unfold wA wK; omega) k2
  · exact hGet_put_ne (by unfold wA wK; omega) k3
  · exact hGet_put_ne (by unfold wA wK; omega) k4
  · rw [hGet_put_ne (by unfold wA wK; omega) k5]; unfold uFs; rw [updI_n (by omega)]
  · have hr := iAd_r (k := q)
    rw [updI_n (by omega)]; exact ⟨(k6 q hq).lo, hGet_put_ne (by unfold wA wK; omega) (k6 q hq).gx, hGet_put_ne (by unfold wA wK; omega) (k6 q hq).gc⟩
  · rw [hGet_put_ne (by unfold wK wT; omega) (k7 q hq)]; unfold tFs; rw [updI_n (by omega), updI_n (by omega), updI_n (by omega)]
  · rw [hGet_put_ne (by unfold wK wS; omega) (k8 q hq)]; unfold sFs; rw [updI_n (by omega), updI_n (by omega), updI_n (by omega)]
  · by_cases e : q = q0
    · subst e
      rw [hGet_put_self]; unfold kFs
      simp [updI, updO, updL, List.set]
    · rw [hGet_put_ne (by unfold wK; omega) (k9 q hq)]; unfold kFs; rw [updI_n (by omega), updI_n (by omega), updI_n (by omega), updI_n (by omega), updI_n (by omega), updI_n (by omega), updI_n (by omega), updI_n (by omega), updI_n (by omega)]
theorem isW.putK9 (k : isW h w c C nm g) {q0 : Nat} (hq0 : q0 < 10) (v : Int) : isW (hPut h (wK w q0) (.inl (7, (kFs c g q0).set 9 (.int (J v))))) w (updI c (495 + 9 * q0) v) C nm g := by
  obtain ⟨k0, k1, k2, k3, k4, k5, k6, k7, k8, k9⟩ := k
  refine ⟨k0, ?_, ?_, ?_, ?_, ?_, fun q hq => ?_, fun q hq => ?_, fun q hq => ?_, fun q hq => ?_⟩
  · rw [hGet_put_ne (by unfold wK; omega) k1]; unfold wFs; rw [updI_n (by omega), updI_n (by omega), updI_n (by omega), updI_n (by omega)]
  · exact hGet_put_ne (by unfold wA wK; omega) k2
  · exact hGet_put_ne (by unfold wA wK; omega) k3
  · exact hGet_put_ne (by unfold wA wK; omega) k4
  · rw [hGet_put_ne (by unfold wA wK; omega) k5]; unfold uFs; rw [updI_n (by omega)]
  · have hr := iAd_r (k := q)
    rw [updI_n (by omega)]; exact ⟨(k6 q hq).lo, hGet_put_ne (by unfold wA wK; omega) (k6 q hq).gx, hGet_put_ne (by unfold wA wK; omega) (k6 q hq).gc⟩
  · rw [hGet_put_ne (by unfold wK wT; omega) (k7 q hq)]; unfold tFs; rw [updI_n (by omega), updI_n (by omega), updI_n (by omega)]
  · rw [hGet_put_ne (by unfold wK wS; omega) (k8 q hq)]; unfold sFs; rw [updI_n (by omega), updI_n (by omega), updI_n (by omega)]
  · by_cases e : q = q0
    · subst e
      rw [hGet_put_self]; unfold kFs
      simp [updI, updO, updL, List.set]
    · rw [hGet_put_ne (by unfold wK; omega) (k9 q hq)]; unfold kFs; rw [updI_n (by omega), updI_n (by omega), updI_n (by omega), updI_n (by omega), updI_n (by omega), updI_n (by omega), updI_n (by omega), updI_n (by omega), updI_n (by omega)]
theorem isW.putK10 (k : isW h w c C nm g) {q0 : Nat} (hq0 : q0 < 10) (v : Int) : isW (hPut h (wK w q0) (.inl (7, (kFs c g q0).set 10 (.int (J v))))) w (updI c (496 + 9 * q0) v) C nm g := by
  obtain ⟨k0, k1, k2, k3, k4, k5, k6, k7, k8, k9⟩ := k
  refine ⟨k0, ?_, ?_, ?_, ?_, ?_, fun q hq => ?_, fun q hq => ?_, fun q hq => ?_, fun q hq => ?_⟩
  · rw [hGet_put_ne (by unfold wK; omega) k1]; unfold wFs; rw [updI_n (by omega), updI_n (by omega), updI_n (by omega), updI_n (by omega)]
  · exact hGet_put_ne (by unfold wA wK; omega) k2
  · exact hGet_put_ne (by unfold wA wK; omega) k3
  · exact hGet_put_ne (by unfold wA wK; omega) k4
  · rw [hGet_put_ne (by unfold wA wK; omega) k5]; unfold uFs; rw [updI_n (by omega)]
  · have hr := iAd_r (k := q)
    rw [updI_n (by omega)]; exact ⟨(k6 q hq).lo, hGet_put_ne (by unfold wA wK; omega) (k6 q hq).gx, hGet_put_ne (by unfold wA wK; omega) (k6 q hq).gc⟩
  · rw [hGet_put_ne (by unfold wK wT; omega) (k7 q hq)]; unfold tFs; rw [updI_n (by omega), updI_n (by omega), updI_n (by omega)]
  · rw [hGet_put_ne (by unfold wK wS; omega) (k8 q hq)]; unfold sFs; rw [updI_n (by omega), updI_n (by omega), updI_n (by omega)]
  · by_cases e : q = q0
    · subst e
      rw [hGet_put_self]; unfold kFs
      simp [updI, updO, updL, List.set]
    · rw [hGet_put_ne (by unfold wK; omega) (k9 q hq)]; unfold kFs; rw [updI_n (by omega), updI_n (by omega), updI_n (by omega), updI_n (by omega), updI_n (by omega), updI_n (by omega), updI_n (by omega), updI_n (by omega), updI_n (by omega)]
end IW
theorem fit_J0 : fits .boolean (.int (J 0)) = true := by rw [← J_0]; decide +kernel
theorem fit_J1 : fits .boolean (.int (J 1)) = true := by rw [← J_1]; decide +kernel
section RW
variable {G : mG} {l : Launch} {d : Nat} {M : mM} {pc : Nat} {ls : List (Option Value)} {st : List Value} {h : mH} {Q : Option Value → mH → Prop} {w : Nat} {c : Nat → Int} {C : Nat → Nat → Int} {nm : Nat → Int64} {g : Nat → Option Nat}
theorem rc_putw0 {index : Nat} {v : Int} (hdg : decode M.2.1 pc = .ok (.putfield index, 3)) (hf : mFld M.1.cls index 9 3 .int false) (hW : isW h w c C nm g)  
    (K : ∀ h1, isW h1 w (updI c 0 v) C nm g → Same (wBlk w) h h1 → RUN G l d M (pc + 3) ls st h1 Q) : RUN G l d M pc ls (.int (J v) :: .ref w :: st) h Q :=
  r_putf hdg hf hW.gx hW.lo rfl rfl (Nat.le_of_ble_eq_true rfl) (K _ (hW.putw0 v) (Same.refl.put (by unfold wBlk; omega)))
theorem rc_putw1 {index : Nat} {v : Int} (hdg : decode M.2.1 pc = .ok (.putfield index, 3)) (hf : mFld M.1.cls index 9 4 .int false) (hW : isW h w c C nm g)  
    (K : ∀ h1, isW h1 w (updI c 1 v) C nm g → Same (wBlk w) h h1 → RUN G l d M (pc + 3) ls st h1 Q) : RUN G l d M pc ls (.int (J v) :: .ref w :: st) h Q :=
  r_putf hdg hf hW.gx hW.lo rfl rfl (Nat.le_of_ble_eq_true rfl) (K _ (hW.putw1 v) (Same.refl.put (by unfold wBlk; omega)))
theorem rc_putw2 {index : Nat} {v : Int} (hdg : decode M.2.1 pc = .ok (.putfield index, 3)) (hf : mFld M.1.cls index 9 5 .int false) (hW : isW h w c C nm g)  
    (K : ∀ h1, isW h1 w (updI c 2 v) C nm g → Same (wBlk w) h h1 → RUN G l d M (pc + 3) ls st h1 Q) : RUN G l d M pc ls (.int (J v) :: .ref w :: st) h Q :=
  r_putf hdg hf hW.gx hW.lo rfl rfl (Nat.le_of_ble_eq_true rfl) (K _ (hW.putw2 v) (Same.refl.put (by unfold wBlk; omega)))
theorem rc_putw3 {index : Nat} {v : Int} (hdg : decode M.2.1 pc = .ok (.putfield index, 3)) (hf : mFld M.1.cls index 9 6 .int false) (hW : isW h w c C nm g)  
    (K : ∀ h1, isW h1 w (updI c 3 v) C nm g → Same (wBlk w) h h1 → RUN G l d M (pc + 3) ls st h1 Q) : RUN G l d M pc ls (.int (J v) :: .ref w :: st) h Q :=
  r_putf hdg hf hW.gx hW.lo rfl rfl (Nat.le_of_ble_eq_true rfl) (K _ (hW.putw3 v) (Same.refl.put (by unfold wBlk; omega)))
theorem rc_putF {index : Nat} {v : Int} (hdg : decode M.2.1 pc = .ok (.putfield index, 3)) (hf : mFld M.1.cls index 0 3 .int false) (hW : isW h w c C nm g)  
    (K : ∀ h1, isW h1 w (updI c 4 v) C nm g → Same (wBlk w) h h1 → RUN G l d M (pc + 3) ls st h1 Q) : RUN G l d M pc ls (.int (J v) :: .ref (wA w 10) :: st) h Q :=
  r_putf hdg hf hW.gF (hW.loA 10) rfl rfl (Nat.le_of_ble_eq_true rfl) (K _ (hW.putF v) (Same.refl.put (by unfold wBlk wA; omega)))
theorem rc_putT0 {index : Nat} {r : Int64} {q0 : Nat} (hdg : decode M.2.1 pc = .ok (.putfield index, 3)) (hf : mFld M.1.cls index 8 0 .long false) (hW : isW h w c C nm g) (hq0 : q0 < 90) 
    (K : ∀ h1, isW h1 w c C (updL nm q0 r) g → Same (wBlk w) h h1 → RUN G l d M (pc + 3) ls st h1 Q) : RUN G l d M pc ls (.long r :: .ref (wT w q0) :: st) h Q :=
  r_putf hdg hf (hW.gT hq0) (hW.loT q0) rfl rfl (Nat.le_of_ble_eq_true rfl) (K _ (hW.putT0 hq0 r) (Same.refl.put (by unfold wBlk wT; omega)))
theorem rc_putT1 {index : Nat} {r : Option Nat} {q0 : Nat} (hdg : decode M.2.1 pc = .ok (.putfield index, 3)) (hf : mFld M.1.cls index 8 1 (.object "ScopeWarden$Step") false) (hW : isW h w c C nm g) (hq0 : q0 < 90) 
    (K : ∀ h1, isW h1 w c C nm (updO g (2 * q0) r) → Same (wBlk w) h h1 → RUN G l d M (pc + 3) ls st h1 Q) : RUN G l d M pc ls (va_rf r :: .ref (wT w q0) :: st) h Q :=
  r_putf hdg hf (hW.gT hq0) (hW.loT q0) (narrow_rf _ _) (fits_rf _ _) (Nat.le_of_ble_eq_true rfl) (K _ (hW.putT1 hq0 r) (Same.refl.put (by unfold wBlk wT; omega)))
theorem rc_putT2 {index : Nat} {r : Option Nat} {q0 : Nat} (hdg : decode M.2.1 pc = .ok (.putfield index, 3)) (hf : mFld M.1.cls index 8 2 (.object "ScopeWarden$Step") false) (hW : isW h w c C nm g) (hq0 : q0 < 90) 
    (K : ∀ h1, isW h1 w c C nm (updO g (2 * q0 + 1) r) → Same (wBlk w) h h1 → RUN G l d M (pc + 3) ls st h1 Q) : RUN G l d M pc ls (va_rf r :: .ref (wT w q0) :: st) h Q :=
  r_putf hdg hf (hW.gT hq0) (hW.loT q0) (narrow_rf _ _) (fits_rf _ _) (Nat.le_of_ble_eq_true rfl) (K _ (hW.putT2 hq0 r) (Same.refl.put (by unfold wBlk wT; omega)))
theorem rc_putT3 {index : Nat} {v : Int} {q0 : Nat} (hdg : decode M.2.1 pc = .ok (.putfield index, 3)) (hf : mFld M.1.cls index 8 3 .int false) (hW : isW h w c C nm g) (hq0 : q0 < 90) 
    (K : ∀ h1, isW h1 w (updI c (32 + 3 * q0) v) C nm g → Same (wBlk w) h h1 → RUN G l d M (pc + 3) ls st h1 Q) : RUN G l d M pc ls (.int (J v) :: .ref (wT w q0) :: st) h Q :=
  r_putf hdg hf (hW.gT hq0) (hW.loT q0) rfl rfl (Nat.le_of_ble_eq_true rfl) (K _ (hW.putT3 hq0 v) (Same.refl.put (by unfold wBlk wT; omega)))
theorem rc_putT4 {index : Nat} {v : Int} {q0 : Nat} (hdg : decode M.2.1 pc = .ok (.putfield index, 3)) (hf : mFld M.1.cls index 8 4 .int false) (hW : isW h w c C nm g) (hq0 : q0 < 90) 
    (K : ∀ h1, isW h1 w (updI c (33 + 3 * q0) v) C nm g → Same (wBlk w) h h1 → RUN G l d M (pc + 3) ls st h1 Q) : RUN G l d M pc ls (.int (J v) :: .ref (wT w q0) :: st) h Q :=
  r_putf hdg hf (hW.gT hq0) (hW.loT q0) rfl rfl (Nat.le_of_ble_eq_true rfl) (K _ (hW.putT4 hq0 v) (Same.refl.put (by unfold wBlk wT; omega)))
theorem rc_putT5 {index : Nat} {v : Int} {q0 : Nat} (hdg : decode M.2.1 pc = .ok (.putfield index, 3)) (hf : mFld M.1.cls index 8 5 .int false) (hW : isW h w c C nm g) (hq0 : q0 < 90) 
    (K : ∀ h1, isW h1 w (updI c (34 + 3 * q0) v) C nm g → Same (wBlk w) h h1 → RUN G l d M (pc + 3) ls st h1 Q) : RUN G l d M pc ls (.int (J v) :: .ref (wT w q0) :: st) h Q :=
  r_putf hdg hf (hW.gT hq0) (hW.loT q0) rfl rfl (Nat.le_of_ble_eq_true rfl) (K _ (hW.putT5 hq0 v) (Same.refl.put (by unfold wBlk wT; omega)))
theorem rc_putS0 {index : Nat} {v : Int} {q0 : Nat} (hdg : decode M.2.1 pc = .ok (.putfield index, 3)) (hf : mFld M.1.cls index 4 0 .int false) (hW : isW h w c C nm g) (hq0 : q0 < 60) 
    (K : ∀ h1, isW h1 w (updI c (304 + 3 * q0) v) C nm g → Same (wBlk w) h h1 → RUN G l d M (pc + 3) ls st h1 Q) : RUN G l d M pc ls (.int (J v) :: .ref (wS w q0) :: st) h Q :=
  r_putf hdg hf (hW.gS hq0) (hW.loS q0) rfl rfl (Nat.le_of_ble_eq_true rfl) (K _ (hW.putS0 hq0 v) (Same.refl.put (by unfold wBlk wS; omega)))
theorem rc_putS1 {index : Nat} {v : Int} {q0 : Nat} (hdg : decode M.2.1 pc = .ok (.putfield index, 3)) (hf : mFld M.1.cls index 4 1 .int false) (hW : isW h w c C nm g) (hq0 : q0 < 60) 
    (K : ∀ h1, isW h1 w (updI c (305 + 3 * q0) v) C nm g → Same (wBlk w) h h1 → RUN G l d M (pc + 3) ls st h1 Q) : RUN G l d M pc ls (.int (J v) :: .ref (wS w q0) :: st) h Q :=
  r_putf hdg hf (hW.gS hq0) (hW.loS q0) rfl rfl (Nat.le_of_ble_eq_true rfl) (K _ (hW.putS1 hq0 v) (Same.refl.put (by unfold wBlk wS; omega)))
theorem rc_putS2 {index : Nat} {v : Int} {q0 : Nat} (hdg : decode M.2.1 pc = .ok (.putfield index, 3)) (hf : mFld M.1.cls index 4 2 .int false) (hW : isW h w c C nm g) (hq0 : q0 < 60) 
    (K : ∀ h1, isW h1 w (updI c (306 + 3 * q0) v) C nm g → Same (wBlk w) h h1 → RUN G l d M (pc + 3) ls st h1 Q) : RUN G l d M pc ls (.int (J v) :: .ref (wS w q0) :: st) h Q :=
  r_putf hdg hf (hW.gS hq0) (hW.loS q0) rfl rfl (Nat.le_of_ble_eq_true rfl) (K _ (hW.putS2 hq0 v) (Same.refl.put (by unfold wBlk wS; omega)))
theorem rc_putK0 {index : Nat} {r : Option Nat} {q0 : Nat} (hdg : decode M.2.1 pc = .ok (.putfield index, 3)) (hf : mFld M.1.cls index 7 0 (.object "ScopeWarden$Step") false) (hW : isW h w c C nm g) (hq0 : q0 < 10) 
    (K : ∀ h1, isW h1 w c C nm (updO g (180 + 2 * q0) r) → Same (wBlk w) h h1 → RUN G l d M (pc + 3) ls st h1 Q) : RUN G l d M pc ls (va_rf r :: .ref (wK w q0) :: st) h Q :=
  r_putf hdg hf (hW.gK hq0) (hW.loK q0) (narrow_rf _ _) (fits_rf _ _) (Nat.le_of_ble_eq_true rfl) (K _ (hW.putK0 hq0 r) (Same.refl.put (by unfold wBlk wK; omega)))
theorem rc_putK1 {index : Nat} {r : Option Nat} {q0 : Nat} (hdg : decode M.2.1 pc = .ok (.putfield index, 3)) (hf : mFld M.1.cls index 7 1 (.object "ScopeWarden$Step") false) (hW : isW h w c C nm g) (hq0 : q0 < 10) 
    (K : ∀ h1, isW h1 w c C nm (updO g (181 + 2 * q0) r) → Same (wBlk w) h h1 → RUN G l d M (pc + 3) ls st h1 Q) : RUN G l d M pc ls (va_rf r :: .ref (wK w q0) :: st) h Q :=
  r_putf hdg hf (hW.gK hq0) (hW.loK q0) (narrow_rf _ _) (fits_rf _ _) (Nat.le_of_ble_eq_true rfl) (K _ (hW.putK1 hq0 r) (Same.refl.put (by unfold wBlk wK; omega)))
theorem rc_putK2 {index : Nat} {v : Int} {q0 : Nat} (hdg : decode M.2.1 pc = .ok (.putfield index, 3)) (hf : mFld M.1.cls index 7 2 .int false) (hW : isW h w c C nm g) (hq0 : q0 < 10) 
    (K : ∀ h1, isW h1 w (updI c (488 + 9 * q0) v) C nm g → Same (wBlk w) h h1 → RUN G l d M (pc + 3) ls st h1 Q) : RUN G l d M pc ls (.int (J v) :: .ref (wK w q0) :: st) h Q :=
  r_putf hdg hf (hW.gK hq0) (hW.loK q0) rfl rfl (Nat.le_of_ble_eq_true rfl) (K _ (hW.putK2 hq0 v) (Same.refl.put (by unfold wBlk wK; omega)))
theorem rc_putK3 {index : Nat} {v : Int} {q0 : Nat} (hdg : decode M.2.1 pc = .ok (.putfield index, 3)) (hf : mFld M.1.cls index 7 3 .int false) (hW : isW h w c C nm g) (hq0 : q0 < 10) 
    (K : ∀ h1, isW h1 w (updI c (489 + 9 * q0) v) C nm g → Same (wBlk w) h h1 → RUN G l d M (pc + 3) ls st h1 Q) : RUN G l d M pc ls (.int (J v) :: .ref (wK w q0) :: st) h Q :=
  r_putf hdg hf (hW.gK hq0) (hW.loK q0) rfl rfl (Nat.le_of_ble_eq_true rfl) (K _ (hW.putK3 hq0 v) (Same.refl.put (by unfold wBlk wK; omega)))
theorem rc_putK4 {index : Nat} {v : Int} {q0 : Nat} (hdg : decode M.2.1 pc = .ok (.putfield index, 3)) (hf : mFld M.1.cls index 7 4 .int false) (hW : isW h w c C nm g) (hq0 : q0 < 10) 
    (K : ∀ h1, isW h1 w (updI c (490 + 9 * q0) v) C nm g → Same (wBlk w) h h1 → RUN G l d M (pc + 3) ls st h1 Q) : RUN G l d M pc ls (.int (J v) :: .ref (wK w q0) :: st) h Q :=
  r_putf hdg hf (hW.gK hq0) (hW.loK q0) rfl rfl (Nat.le_of_ble_eq_true rfl) (K _ (hW.putK4 hq0 v) (Same.refl.put (by unfold wBlk wK; omega)))
theorem rc_putK5 {index : Nat} {v : Int} {q0 : Nat} (hdg : decode M.2.1 pc = .ok (.putfield index, 3)) (hf : mFld M.1.cls index 7 5 .int false) (hW : isW h w c C nm g) (hq0 : q0 < 10) 
    (K : ∀ h1, isW h1 w (updI c (491 + 9 * q0) v) C nm g → Same (wBlk w) h h1 → RUN G l d M (pc + 3) ls st h1 Q) : RUN G l d M pc ls (.int (J v) :: .ref (wK w q0) :: st) h Q :=
  r_putf hdg hf (hW.gK hq0) (hW.loK q0) rfl rfl (Nat.le_of_ble_eq_true rfl) (K _ (hW.putK5 hq0 v) (Same.refl.put (by unfold wBlk wK; omega)))
theorem rc_putK6 {index : Nat} {v : Int} {q0 : Nat} (hdg : decode M.2.1 pc = .ok (.putfield index, 3)) (hf : mFld M.1.cls index 7 6 .int false) (hW : isW h w c C nm g) (hq0 : q0 < 10) 
    (K : ∀ h1, isW h1 w (updI c (492 + 9 * q0) v) C nm g → Same (wBlk w) h h1 → RUN G l d M (pc + 3) ls st h1 Q) : RUN G l d M pc ls (.int (J v) :: .ref (wK w q0) :: st) h Q :=
  r_putf hdg hf (hW.gK hq0) (hW.loK q0) rfl rfl (Nat.le_of_ble_eq_true rfl) (K _ (hW.putK6 hq0 v) (Same.refl.put (by unfold wBlk wK; omega)))
theorem rc_putK7 {index : Nat} {v : Int} {q0 : Nat} (hdg : decode M.2.1 pc = .ok (.putfield index, 3)) (hf : mFld M.1.cls index 7 7 .int false) (hW : isW h w c C nm g) (hq0 : q0 < 10) 
    (K : ∀ h1, isW h1 w (updI c (493 + 9 * q0) v) C nm g → Same (wBlk w) h h1 → RUN G l d M (pc + 3) ls st h1 Q) : RUN G l d M pc ls (.int (J v) :: .ref (wK w q0) :: st) h Q :=
  r_putf hdg hf (hW.gK hq0) (hW.loK q0) rfl rfl (Nat.le_of_ble_eq_true rfl) (K _ (hW.putK7 hq0 v) (Same.refl.put (by unfold wBlk wK; omega)))
theorem rc_putK8 {index : Nat} {v : Int} {q0 : Nat} (hdg : decode M.2.1 pc = .ok (.putfield index, 3)) (hf : mFld M.1.cls index 7 8 .int false) (hW : isW h w c C nm g) (hq0 : q0 < 10) 
    (K : ∀ h1, isW h1 w (updI c (494 + 9 * q0) v) C nm g → Same (wBlk w) h h1 → RUN G l d M (pc + 3) ls st h1 Q) : RUN G l d M pc ls (.int (J v) :: .ref (wK w q0) :: st) h Q :=
  r_putf hdg hf (hW.gK hq0) (hW.loK q0) rfl rfl (Nat.le_of_ble_eq_true rfl) (K _ (hW.putK8 hq0 v) (Same.refl.put (by unfold wBlk wK; omega)))
theorem rc_putK9 {index : Nat} {v : Int} {q0 : Nat} (hdg : decode M.2.1 pc = .ok (.putfield index, 3)) (hf : mFld M.1.cls index 7 9 .int false) (hW : isW h w c C nm g) (hq0 : q0 < 10) 
    (K : ∀ h1, isW h1 w (updI c (495 + 9 * q0) v) C nm g → Same (wBlk w) h h1 → RUN G l d M (pc + 3) ls st h1 Q) : RUN G l d M pc ls (.int (J v) :: .ref (wK w q0) :: st) h Q :=
  r_putf hdg hf (hW.gK hq0) (hW.loK q0) rfl rfl (Nat.le_of_ble_eq_true rfl) (K _ (hW.putK9 hq0 v) (Same.refl.put (by unfold wBlk wK; omega)))
theorem rc_putK10 {index : Nat} {v : Int} {q0 : Nat} (hdg : decode M.2.1 pc = .ok (.putfield index, 3)) (hf : mFld M.1.cls index 7 10 .boolean false) (hW : isW h w c C nm g) (hq0 : q0 < 10) (hz : narrow .boolean (.int (J v)) = .int (J v)) (hft : fits .boolean (.int (J v)) = true) 
    (K : ∀ h1, isW h1 w (updI c (496 + 9 * q0) v) C nm g → Same (wBlk w) h h1 → RUN G l d M (pc + 3) ls st h1 Q) : RUN G l d M pc ls (.int (J v) :: .ref (wK w q0) :: st) h Q :=
  r_putf hdg hf (hW.gK hq0) (hW.loK q0) hz hft (Nat.le_of_ble_eq_true rfl) (K _ (hW.putK10 hq0 v) (Same.refl.put (by unfold wBlk wK; omega)))
theorem rc_aaldT {i : Int} (hdg : decode M.2.1 pc = .ok (.aaload, 1)) (hW : isW h w c C nm g) (hr : InR i) (h0 : 0 ≤ i) (h1 : i < 90) (K : RUN G l d M (pc + 1) ls (.ref (wT w i.toNat) :: st) h Q) : RUN G l d M pc ls (.int (J i) :: .ref (wA w 1) :: st) h Q :=
  rj_aald hdg hW.g1 hr h0 h1 (by rw [show rowT w i.toNat = some (wT w i.toNat) by unfold rowT; rw [if_pos (by omega)]]; exact K)
theorem rc_aaldS {i : Int} (hdg : decode M.2.1 pc = .ok (.aaload, 1)) (hW : isW h w c C nm g) (hr : InR i) (h0 : 0 ≤ i) (h1 : i < 60) (K : RUN G l d M (pc + 1) ls (.ref (wS w i.toNat) :: st) h Q) : RUN G l d M pc ls (.int (J i) :: .ref (wA w 2) :: st) h Q :=
  rj_aald hdg hW.g2 hr h0 h1 (by rw [show rowS w i.toNat = some (wS w i.toNat) by unfold rowS; rw [if_pos (by omega)]]; exact K)
theorem rc_aaldK {i : Int} (hdg : decode M.2.1 pc = .ok (.aaload, 1)) (hW : isW h w c C nm g) (hr : InR i) (h0 : 0 ≤ i) (h1 : i < 10) (K : RUN G l d M (pc + 1) ls (.ref (wK w i.toNat) :: st) h Q) : RUN G l d M pc ls (.int (J i) :: .ref (wA w 3) :: st) h Q :=
  rj_aald hdg hW.g3 hr h0 h1 (by rw [show rowK w i.toNat = some (wK w i.toNat) by unfold rowK; rw [if_pos (by omega)]]; exact K)
end RW
def rA (r k : Nat) : Nat := r + k
def isR (h : mH) (r : Nat) (b z : Int) (f : Nat → Int) (c : Nat → Int) (C : Nat → Nat → Int) (nm : Nat → Int64) (g : Nat → Option Nat) : Prop := h.1 ≤ r ∧ hGet h r = some (.inl (3, [.ref (rA r 1), .ref (rA r 178), .int (J b)])) ∧ isW h (rA r 1) c C nm g ∧ isI h (rA r 178) 160 z f
def isRd (h : mH) (a : Nat) (p e o z : Int) (f : Nat → Int) : Prop := h.1 ≤ a ∧ hGet h a = some (.inl (2, [.ref (rA a 1), .int (J p), .int (J e), .int (J o)])) ∧ isI h (rA a 1) 120 z f
def isSp (h : mH) (a : Nat) (z : Int) (f : Nat → Int) : Prop := h.1 ≤ a ∧ hGet h a = some (.inl (5, [.ref (rA a 1)])) ∧ isI h (rA a 1) 120 z f
section IR
variable {h : mH} {r a : Nat} {b z p e o : Int} {f : Nat → Int} {c : Nat → Int} {C : Nat → Nat → Int} {nm : Nat → Int64} {g : Nat → Option Nat}
theorem isR.lo (k : isR h r b z f c C nm g) : h.1 ≤ r := k.1
theorem isR.gx (k : isR h r b z f c C nm g) : hGet h r = some (.inl (3, [.ref (rA r 1), .ref (rA r 178), .int (J b)])) := k.2.1
theorem isR.w (k : isR h r b z f c C nm g) : isW h (rA r 1) c C nm g := k.2.2.1
theorem isR.i (k : isR h r b z f c C nm g) : isI h (rA r 178) 160 z f := k.2.2.2
theorem isRd.lo (k : isRd h a p e o z f) : h.1 ≤ a := k.1
theorem isRd.gx (k : isRd h a p e o z f) : hGet h a = some (.inl (2, [.ref (rA a 1), .int (J p), .int (J e), .int (J o)])) := k.2.1
theorem isRd.i (k : isRd h a p e o z f) : isI h (rA a 1) 120 z f := k.2.2
theorem isSp.lo (k : isSp h a z f) : h.1 ≤ a := k.1
theorem isSp.gx (k : isSp h a z f) : hGet h a = some (.inl (5, [.ref (rA a 1)])) := k.2.1
theorem isSp.i (k : isSp h a z f) : isI h (rA a 1) 120 z f := k.2.2
def rBlk (r : Nat) : Nat → Prop := fun q => r ≤ q ∧ q < r + 180
def dBlk (a : Nat) : Nat → Prop := fun q => a ≤ q ∧ q < a + 3
theorem isR.ofW {h' : mH} {c' : Nat → Int} {C' : Nat → Nat → Int} {nm' : Nat → Int64} {g' : Nat → Option Nat} (k : isR h r b z f c C nm g) (S : Same (wBlk (rA r 1)) h h') (k2 : isW h' (rA r 1) c' C' nm' g') : isR h' r b z f c' C' nm' g' :=
  ⟨by rw [S.1]; exact k.lo, (S.2.2.2 r (fun q => by unfold wBlk rA at q; omega)).trans k.gx, k2, k.i.kept S (fun q => by unfold wBlk rA at q; omega) (fun q => by unfold wBlk rA at q; omega)⟩
theorem isR.ofI {h' : mH} {z' : Int} {f' : Nat → Int} (k : isR h r b z f c C nm g) (S : Same (iBlk (rA r 178)) h h') (k2 : isI h' (rA r 178) 160 z' f') : isR h' r b z' f' c C nm g :=
  ⟨by rw [S.1]; exact k.lo, (S.2.2.2 r (fun q => by unfold iBlk rA at q; omega)).trans k.gx, k.w.kept S (fun q hq hq2 => by unfold wBlk rA at hq; unfold iBlk rA at hq2; omega), k2⟩
theorem isRd.ofI {h' : mH} {z' : Int} {f' : Nat → Int} (k : isRd h a p e o z f) (S : Same (iBlk (rA a 1)) h h') (k2 : isI h' (rA a 1) 120 z' f') : isRd h' a p e o z' f' :=
  ⟨by rw [S.1]; exact k.lo, (S.2.2.2 a (fun q => by unfold iBlk rA at q; omega)).trans k.gx, k2⟩
theorem isSp.ofI {h' : mH} {z' : Int} {f' : Nat → Int} (k : isSp h a z f) (S : Same (iBlk (rA a 1)) h h') (k2 : isI h' (rA a 1) 120 z' f') : isSp h' a z' f' :=
  ⟨by rw [S.1]; exact k.lo, (S.2.2.2 a (fun q => by unfold iBlk rA at q; omega)).trans k.gx, k2⟩
theorem w_rBlk {q : Nat} (k : wBlk (rA r 1) q) : rBlk r q := by unfold wBlk rA at k; unfold rBlk; omega
theorem i_rBlk {q : Nat} (k : iBlk (rA r 178) q) : rBlk r q := by unfold iBlk rA at k; unfold rBlk; omega
theorem i_dBlk {q : Nat} (k : iBlk (rA a 1) q) : dBlk a q := by unfold iBlk rA at k; unfold dBlk; omega
theorem isR.keep2 {h' : mH} (k : isR h r b z f c C nm g) (e : h'.1 = h.1) (S : ∀ q, rBlk r q → hGet h' q = hGet h q) : isR h' r b z f c C nm g :=
  ⟨by rw [e]; exact k.lo, (S _ (by unfold rBlk; omega)).trans k.gx, k.w.keep2 e (fun q hq => S q (w_rBlk hq)), k.i.keep2 e (fun q hq => S q (i_rBlk hq))⟩
theorem isRd.keep2 {h' : mH} {p e o : Int} (k : isRd h a p e o z f) (e1 : h'.1 = h.1) (S : ∀ q, dBlk a q → hGet h' q = hGet h q) : isRd h' a p e o z f :=
  ⟨by rw [e1]; exact k.lo, (S _ (by unfold dBlk; omega)).trans k.gx, k.i.keep2 e1 (fun q hq => S q (i_dBlk hq))⟩
theorem isSp.keep2 {h' : mH} (k : isSp h a z f) (e : h'.1 = h.1) (S : ∀ q, dBlk a q → hGet h' q = hGet h q) : isSp h' a z f :=
  ⟨by rw [e]; exact k.lo, (S _ (by unfold dBlk; omega)).trans k.gx, k.i.keep2 e (fun q hq => S q (i_dBlk hq))⟩
end IR
section RR
variable {G : mG} {l : Launch} {d : Nat} {M : mM} {pc : Nat} {ls : List (Option Value)} {st : List Value} {h : mH} {Q : Option Value → mH → Prop} {r a : Nat} {b z p e o : Int} {f : Nat → Int} {c : Nat → Int} {C : Nat → Nat → Int} {nm : Nat → Int64} {g : Nat → Option Nat}
theorem rc_putR {index : Nat} {v : Int} (hdg : decode M.2.1 pc = .ok (.putfield index, 3)) (hf : mFld M.1.cls index 3 2 .int false) (hR : isR h r b z f c C nm g)
    (K : ∀ h1, isR h1 r v z f c C nm g → Same (rBlk r) h h1 → RUN G l d M (pc + 3) ls st h1 Q) : RUN G l d M pc ls (.int (J v) :: .ref r :: st) h Q := by
  have S : Same (fun q => q = r) h (hPut h r (.inl (3, [.ref (rA r 1), .ref (rA r 178), .int (J v)]))) := Same.refl.put rfl
  exact r_putf hdg hf hR.gx hR.lo rfl rfl (Nat.le_of_ble_eq_true rfl) (K _ ⟨hR.lo, hGet_put_self, hR.w.kept S (fun q hq e => by unfold wBlk rA at hq; omega), hR.i.kept S (by unfold rA; omega) (by unfold rA; omega)⟩ (S.mono (fun q hq => by unfold rBlk; omega)))
theorem rc_putD1 {index : Nat} {v : Int} (hdg : decode M.2.1 pc = .ok (.putfield index, 3)) (hf : mFld M.1.cls index 2 1 .int false) (hD : isRd h a p e o z f)
    (K : ∀ h1, isRd h1 a v e o z f → Same (dBlk a) h h1 → RUN G l d M (pc + 3) ls st h1 Q) : RUN G l d M pc ls (.int (J v) :: .ref a :: st) h Q := by
  have S : Same (fun q => q = a) h (hPut h a (.inl (2, [.ref (rA a 1), .int (J v), .int (J e), .int (J o)]))) := Same.refl.put rfl
  exact r_putf hdg hf hD.gx hD.lo rfl rfl (Nat.le_of_ble_eq_true rfl) (K _ ⟨hD.lo, hGet_put_self, hD.i.kept S (by unfold rA; omega) (by unfold rA; omega)⟩ (S.mono (fun q hq => by unfold dBlk; omega)))
theorem rc_putD2 {index : Nat} {v : Int} (hdg : decode M.2.1 pc = .ok (.putfield index, 3)) (hf : mFld M.1.cls index 2 2 .int false) (hD : isRd h a p e o z f)
    (K : ∀ h1, isRd h1 a p v o z f → Same (dBlk a) h h1 → RUN G l d M (pc + 3) ls st h1 Q) : RUN G l d M pc ls (.int (J v) :: .ref a :: st) h Q := by
  have S : Same (fun q => q = a) h (hPut h a (.inl (2, [.ref (rA a 1), .int (J p), .int (J v), .int (J o)]))) := Same.refl.put rfl
  exact r_putf hdg hf hD.gx hD.lo rfl rfl (Nat.le_of_ble_eq_true rfl) (K _ ⟨hD.lo, hGet_put_self, hD.i.kept S (by unfold rA; omega) (by unfold rA; omega)⟩ (S.mono (fun q hq => by unfold dBlk; omega)))
theorem rc_putD3 {index : Nat} {v : Int} (hdg : decode M.2.1 pc = .ok (.putfield index, 3)) (hf : mFld M.1.cls index 2 3 .int false) (hD : isRd h a p e o z f)
    (K : ∀ h1, isRd h1 a p e v z f → Same (dBlk a) h h1 → RUN G l d M (pc + 3) ls st h1 Q) : RUN G l d M pc ls (.int (J v) :: .ref a :: st) h Q := by
  have S : Same (fun q => q = a) h (hPut h a (.inl (2, [.ref (rA a 1), .int (J p), .int (J e), .int (J v)]))) := Same.refl.put rfl
  exact r_putf hdg hf hD.gx hD.lo rfl rfl (Nat.le_of_ble_eq_true rfl) (K _ ⟨hD.lo, hGet_put_self, hD.i.kept S (by unfold rA; omega) (by unfold rA; omega)⟩ (S.mono (fun q hq => by unfold dBlk; omega)))
end RR
end mg_50
section mg_51
/-! ===== the class: rows of ints with a size ===== -/
abbrev inI (n : Nat) (z i : Int) : Prop := 0 ≤ i ∧ i < z ∧ i < n
def atF (n : Nat) (z : Int) (f : Nat → Int) (i : Int) : Int := if inI n z i then f i.toNat else 0
def putF (n : Nat) (z : Int) (f : Nat → Int) (i v : Int) : Nat → Int := if inI n z i then updI f i.toNat v else f
theorem atF_r {n : Nat} {z : Int} {f : Nat → Int} {i : Int} (hf : ∀ q, InR (f q)) : InR (atF n z f i) := by
  unfold atF; split
  · exact hf _
  · decide
set_option maxHeartbeats 4000000 in
set_option maxRecDepth 100000 in
theorem ci_has {G : mG} {l : Launch} (d : Nat) {h : mH} {a n : Nat} {z : Int} {f : Nat → Int} (I : isI h a n z f) (hn : n ≤ 1000) (hz : InR z) {i : Int} (hi : InR i) : RUNM G l (d) mX1_has [.ref a, .int (J i)] h (fun v h' => v = some (.int (J (b01 (inI n z i)))) ∧ h' = h) := by
  refine RUNM.of (by decide +kernel) (Nat.le_of_ble_eq_true rfl) ?_
  refine r_iload_n (pc := 0) dX1_has_0 rfl ?_
  refine rj_if_lt (pc := 1) (tgt := 25) dX1_has_1 (by decide) (by first | exact b01_r | exact bz_r | omega | (constructor <;> omega) | apply_assumption | (apply atF_r; assumption) | fail "no range") (fun c_1 => ?_) (fun c_1 => ?_)
  · refine rj_iconst (pc := 25) dX1_has_25 ?_
    refine r_ireturn (pc := 26) .boolean dX1_has_26 rfl (by first | exact nar_J0 | exact nar_J1 | exact nar_b01 | exact nar_bz) ?_
    first
    | exact ⟨rfl, rfl⟩
    | exact ⟨vf (by omega), rfl⟩
    | exact ⟨vt (by omega), rfl⟩
  · refine r_iload_n (pc := 4) dX1_has_4 rfl ?_
    refine r_aload_n (pc := 5) dX1_has_5 rfl (by first | rfl | exact isRefV_rf _) ?_
    refine r_getf (pc := 6) dX1_has_6 fX1_13 (by first | assumption | exact isI.gx (by assumption) | exact isI.gc (by assumption) | exact isW.gx (by assumption) | exact isW.gF (by assumption) | exact isW.gT (by assumption) (by omega) | exact isW.gS (by assumption) (by omega) | exact isW.gK (by assumption) (by omega) | exact isW.g1 (by assumption) | exact isW.g2 (by assumption) | exact isW.g3 (by assumption) | exact isI.gx (isW.i0 (by assumption)) | exact isI.gc (isW.i0 (by assumption)) | exact isI.gx (isW.i1 (by assumption)) | exact isI.gc (isW.i1 (by assumption)) | exact isI.gx (isW.i2 (by assumption)) | exact isI.gc (isW.i2 (by assumption)) | exact isI.gx (isW.i3 (by assumption)) | exact isI.gc (isW.i3 (by assumption)) | exact isI.gx (isW.i4 (by assumption)) | exact isI.gc (isW.i4 (by assumption)) | exact isI.gx (isW.i5 (by assumption)) | exact isI.gc (isW.i5 (by assumption)) | exact isR.gx (by assumption) | exact isRd.gx (by assumption) | exact isSp.gx (by assumption) | exact isI.gx (isR.i (by assumption)) | exact isI.gx (isRd.i (by assumption)) | exact isI.gc (isRd.i (by assumption)) | exact isI.gx (isSp.i (by assumption)) | exact isW.gx (isR.w (by assumption)) | exact isW.gF (isR.w (by assumption)) | fail "no such object") (by rfl) ?_
    refine rj_icmp_ge (pc := 9) (tgt := 25) dX1_has_9 (by decide) (by first | exact b01_r | exact bz_r | omega | (constructor <;> omega) | apply_assumption | (apply atF_r; assumption) | fail "no range") (by first | exact b01_r | exact bz_r | omega | (constructor <;> omega) | apply_assumption | (apply atF_r; assumption) | fail "no range") (fun c_9 => ?_) (fun c_9 => ?_)
    · refine rj_iconst (pc := 25) dX1_has_25 ?_
      refine r_ireturn (pc := 26) .boolean dX1_has_26 rfl (by first | exact nar_J0 | exact nar_J1 | exact nar_b01 | exact nar_bz) ?_
      first
      | exact ⟨rfl, rfl⟩
      | exact ⟨vf (by omega), rfl⟩
      | exact ⟨vt (by omega), rfl⟩
    · refine r_iload_n (pc := 12) dX1_has_12 rfl ?_
      refine r_aload_n (pc := 13) dX1_has_13 rfl (by first | rfl | exact isRefV_rf _) ?_
      refine r_getf (pc := 14) dX1_has_14 fX1_7 (by first | assumption | exact isI.gx (by assumption) | exact isI.gc (by assumption) | exact isW.gx (by assumption) | exact isW.gF (by assumption) | exact isW.gT (by assumption) (by omega) | exact isW.gS (by assumption) (by omega) | exact isW.gK (by assumption) (by omega) | exact isW.g1 (by assumption) | exact isW.g2 (by assumption) | exact isW.g3 (by assumption) | exact isI.gx (isW.i0 (by assumption)) | exact isI.gc (isW.i0 (by assumption)) | exact isI.gx (isW.i1 (by assumption)) | exact isI.gc (isW.i1 (by assumption)) | exact isI.gx (isW.i2 (by assumption)) | exact isI.gc (isW.i2 (by assumption)) | exact isI.gx (isW.i3 (by assumption)) | exact isI.gc (isW.i3 (by assumption)) | exact isI.gx (isW.i4 (by assumption)) | exact isI.gc (isW.i4 (by assumption)) | exact isI.gx (isW.i5 (by assumption)) | exact isI.gc (isW.i5 (by assumption)) | exact isR.gx (by assumption) | exact isRd.gx (by assumption) | exact isSp.gx (by assumption) | exact isI.gx (isR.i (by assumption)) | exact isI.gx (isRd.i (by assumption)) | exact isI.gc (isRd.i (by assumption)) | exact isI.gx (isSp.i (by assumption)) | exact isW.gx (isR.w (by assumption)) | exact isW.gF (isR.w (by assumption)) | fail "no such object") (by rfl) ?_
      first | refine rj_alen (pc := 17) dX1_has_17 (by first | assumption | exact isI.gx (by assumption) | exact isI.gc (by assumption) | exact isW.gx (by assumption) | exact isW.gF (by assumption) | exact isW.gT (by assumption) (by omega) | exact isW.gS (by assumption) (by omega) | exact isW.gK (by assumption) (by omega) | exact isW.g1 (by assumption) | exact isW.g2 (by assumption) | exact isW.g3 (by assumption) | exact isI.gx (isW.i0 (by assumption)) | exact isI.gc (isW.i0 (by assumption)) | exact isI.gx (isW.i1 (by assumption)) | exact isI.gc (isW.i1 (by assumption)) | exact isI.gx (isW.i2 (by assumption)) | exact isI.gc (isW.i2 (by assumption)) | exact isI.gx (isW.i3 (by assumption)) | exact isI.gc (isW.i3 (by assumption)) | exact isI.gx (isW.i4 (by assumption)) | exact isI.gc (isW.i4 (by assumption)) | exact isI.gx (isW.i5 (by assumption)) | exact isI.gc (isW.i5 (by assumption)) | exact isR.gx (by assumption) | exact isRd.gx (by assumption) | exact isSp.gx (by assumption) | exact isI.gx (isR.i (by assumption)) | exact isI.gx (isRd.i (by assumption)) | exact isI.gc (isRd.i (by assumption)) | exact isI.gx (isSp.i (by assumption)) | exact isW.gx (isR.w (by assumption)) | exact isW.gF (isR.w (by assumption)) | fail "no such object") ?_ | refine rj_alenR (pc := 17) dX1_has_17 (by first | assumption | exact isI.gx (by assumption) | exact isI.gc (by assumption) | exact isW.gx (by assumption) | exact isW.gF (by assumption) | exact isW.gT (by assumption) (by omega) | exact isW.gS (by assumption) (by omega) | exact isW.gK (by assumption) (by omega) | exact isW.g1 (by assumption) | exact isW.g2 (by assumption) | exact isW.g3 (by assumption) | exact isI.gx (isW.i0 (by assumption)) | exact isI.gc (isW.i0 (by assumption)) | exact isI.gx (isW.i1 (by assumption)) | exact isI.gc (isW.i1 (by assumption)) | exact isI.gx (isW.i2 (by assumption)) | exact isI.gc (isW.i2 (by assumption)) | exact isI.gx (isW.i3 (by assumption)) | exact isI.gc (isW.i3 (by assumption)) | exact isI.gx (isW.i4 (by assumption)) | exact isI.gc (isW.i4 (by assumption)) | exact isI.gx (isW.i5 (by assumption)) | exact isI.gc (isW.i5 (by assumption)) | exact isR.gx (by assumption) | exact isRd.gx (by assumption) | exact isSp.gx (by assumption) | exact isI.gx (isR.i (by assumption)) | exact isI.gx (isRd.i (by assumption)) | exact isI.gc (isRd.i (by assumption)) | exact isI.gx (isSp.i (by assumption)) | exact isW.gx (isR.w (by assumption)) | exact isW.gF (isR.w (by assumption)) | fail "no such object") ?_
      refine rj_icmp_ge (pc := 18) (tgt := 25) dX1_has_18 (by decide) (by first | exact b01_r | exact bz_r | omega | (constructor <;> omega) | apply_assumption | (apply atF_r; assumption) | fail "no range") (by first | exact b01_r | exact bz_r | omega | (constructor <;> omega) | apply_assumption | (apply atF_r; assumption) | fail "no range") (fun c_18 => ?_) (fun c_18 => ?_)
      · refine rj_iconst (pc := 25) dX1_has_25 ?_
        refine r_ireturn (pc := 26) .boolean dX1_has_26 rfl (by first | exact nar_J0 | exact nar_J1 | exact nar_b01 | exact nar_bz) ?_
        first
        | exact ⟨rfl, rfl⟩
        | exact ⟨vf (by omega), rfl⟩
        | exact ⟨vt (by omega), rfl⟩
      · refine rj_iconst (pc := 21) dX1_has_21 ?_
        refine r_goto (pc := 22) (tgt := 26) dX1_has_22 (by decide) ?_
        refine r_ireturn (pc := 26) .boolean dX1_has_26 rfl (by first | exact nar_J0 | exact nar_J1 | exact nar_b01 | exact nar_bz) ?_
        first
        | exact ⟨rfl, rfl⟩
        | exact ⟨vf (by omega), rfl⟩
        | exact ⟨vt (by omega), rfl⟩
set_option maxHeartbeats 4000000 in
set_option maxRecDepth 100000 in
theorem ci_hasRange {G : mG} {l : Launch} (d : Nat) {h : mH} {a n : Nat} {z : Int} {f : Nat → Int} (I : isI h a n z f) (hn : n ≤ 1000) (hz : InR z) (hzn : z ≤ n) {i k : Int} (hi : InR i) (hk : InR k) : RUNM G l (d) mX1_hasRange [.ref a, .int (J i), .int (J k)] h (fun v h' => v = some (.int (J (b01 (0 ≤ i ∧ 0 ≤ k ∧ i + k ≤ z)))) ∧ h' = h) := by
  refine RUNM.of (by decide +kernel) (Nat.le_of_ble_eq_true rfl) ?_
  refine r_iload_n (pc := 0) dX1_hasRange_0 rfl ?_
  refine rj_if_lt (pc := 1) (tgt := 42) dX1_hasRange_1 (by decide) (by first | exact b01_r | exact bz_r | omega | (constructor <;> omega) | apply_assumption | (apply atF_r; assumption) | fail "no range") (fun c_1 => ?_) (fun c_1 => ?_)
  · refine rj_iconst (pc := 42) dX1_hasRange_42 ?_
    refine r_ireturn (pc := 43) .boolean dX1_hasRange_43 rfl (by first | exact nar_J0 | exact nar_J1 | exact nar_b01 | exact nar_bz) ?_
    first
    | exact ⟨rfl, rfl⟩
    | exact ⟨vf (by omega), rfl⟩
    | exact ⟨vt (by omega), rfl⟩
  · refine r_iload_n (pc := 4) dX1_hasRange_4 rfl ?_
    refine rj_if_lt (pc := 5) (tgt := 42) dX1_hasRange_5 (by decide) (by first | exact b01_r | exact bz_r | omega | (constructor <;> omega) | apply_assumption | (apply atF_r; assumption) | fail "no range") (fun c_5 => ?_) (fun c_5 => ?_)
    · refine rj_iconst (pc := 42) dX1_hasRange_42 ?_
      refine r_ireturn (pc := 43) .boolean dX1_hasRange_43 rfl (by first | exact nar_J0 | exact nar_J1 | exact nar_b01 | exact nar_bz) ?_
      first
      | exact ⟨rfl, rfl⟩
      | exact ⟨vf (by omega), rfl⟩
      | exact ⟨vt (by omega), rfl⟩
    · refine r_iload_n (pc := 8) dX1_hasRange_8 rfl ?_
      refine r_aload_n (pc := 9) dX1_hasRange_9 rfl (by first | rfl | exact isRefV_rf _) ?_
      refine r_getf (pc := 10) dX1_hasRange_10 fX1_13 (by first | assumption | exact isI.gx (by assumption) | exact isI.gc (by assumption) | exact isW.gx (by assumption) | exact isW.gF (by assumption) | exact isW.gT (by assumption) (by omega) | exact isW.gS (by assumption) (by omega) | exact isW.gK (by assumption) (by omega) | exact isW.g1 (by assumption) | exact isW.g2 (by assumption) | exact isW.g3 (by assumption) | exact isI.gx (isW.i0 (by assumption)) | exact isI.gc (isW.i0 (by assumption)) | exact isI.gx (isW.i1 (by assumption)) | exact isI.gc (isW.i1 (by assumption)) | exact isI.gx (isW.i2 (by assumption)) | exact isI.gc (isW.i2 (by assumption)) | exact isI.gx (isW.i3 (by assumption)) | exact isI.gc (isW.i3 (by assumption)) | exact isI.gx (isW.i4 (by assumption)) | exact isI.gc (isW.i4 (by assumption)) | exact isI.gx (isW.i5 (by assumption)) | exact isI.gc (isW.i5 (by assumption)) | exact isR.gx (by assumption) | exact isRd.gx (by assumption) | exact isSp.gx (by assumption) | exact isI.gx (isR.i (by assumption)) | exact isI.gx (isRd.i (by assumption)) | exact isI.gc (isRd.i (by assumption)) | exact isI.gx (isSp.i (by assumption)) | exact isW.gx (isR.w (by assumption)) | exact isW.gF (isR.w (by assumption)) | fail "no such object") (by rfl) ?_
      refine rj_icmp_gt (pc := 13) (tgt := 42) dX1_hasRange_13 (by decide) (by first | exact b01_r | exact bz_r | omega | (constructor <;> omega) | apply_assumption | (apply atF_r; assumption) | fail "no range") (by first | exact b01_r | exact bz_r | omega | (constructor <;> omega) | apply_assumption | (apply atF_r; assumption) | fail "no range") (fun c_13 => ?_) (fun c_13 => ?_)
      · refine rj_iconst (pc := 42) dX1_hasRange_42 ?_
        refine r_ireturn (pc := 43) .boolean dX1_hasRange_43 rfl (by first | exact nar_J0 | exact nar_J1 | exact nar_b01 | exact nar_bz) ?_
        first
        | exact ⟨rfl, rfl⟩
        | exact ⟨vf (by omega), rfl⟩
        | exact ⟨vt (by omega), rfl⟩
      · refine r_iload_n (pc := 16) dX1_hasRange_16 rfl ?_
        refine r_aload_n (pc := 17) dX1_hasRange_17 rfl (by first | rfl | exact isRefV_rf _) ?_
        refine r_getf (pc := 18) dX1_hasRange_18 fX1_13 (by first | assumption | exact isI.gx (by assumption) | exact isI.gc (by assumption) | exact isW.gx (by assumption) | exact isW.gF (by assumption) | exact isW.gT (by assumption) (by omega) | exact isW.gS (by assumption) (by omega) | exact isW.gK (by assumption) (by omega) | exact isW.g1 (by assumption) | exact isW.g2 (by assumption) | exact isW.g3 (by assumption) | exact isI.gx (isW.i0 (by assumption)) | exact isI.gc (isW.i0 (by assumption)) | exact isI.gx (isW.i1 (by assumption)) | exact isI.gc (isW.i1 (by assumption)) | exact isI.gx (isW.i2 (by assumption)) | exact isI.gc (isW.i2 (by assumption)) | exact isI.gx (isW.i3 (by assumption)) | exact isI.gc (isW.i3 (by assumption)) | exact isI.gx (isW.i4 (by assumption)) | exact isI.gc (isW.i4 (by assumption)) | exact isI.gx (isW.i5 (by assumption)) | exact isI.gc (isW.i5 (by assumption)) | exact isR.gx (by assumption) | exact isRd.gx (by assumption) | exact isSp.gx (by assumption) | exact isI.gx (isR.i (by assumption)) | exact isI.gx (isRd.i (by assumption)) | exact isI.gc (isRd.i (by assumption)) | exact isI.gx (isSp.i (by assumption)) | exact isW.gx (isR.w (by assumption)) | exact isW.gF (isR.w (by assumption)) | fail "no such object") (by rfl) ?_
        refine r_iload_n (pc := 21) dX1_hasRange_21 rfl ?_
        refine rj_isub (pc := 22) dX1_hasRange_22 ?_
        refine rj_icmp_gt (pc := 23) (tgt := 42) dX1_hasRange_23 (by decide) (by first | exact b01_r | exact bz_r | omega | (constructor <;> omega) | apply_assumption | (apply atF_r; assumption) | fail "no range") (by first | exact b01_r | exact bz_r | omega | (constructor <;> omega) | apply_assumption | (apply atF_r; assumption) | fail "no range") (fun c_23 => ?_) (fun c_23 => ?_)
        · refine rj_iconst (pc := 42) dX1_hasRange_42 ?_
          refine r_ireturn (pc := 43) .boolean dX1_hasRange_43 rfl (by first | exact nar_J0 | exact nar_J1 | exact nar_b01 | exact nar_bz) ?_
          first
          | exact ⟨rfl, rfl⟩
          | exact ⟨vf (by omega), rfl⟩
          | exact ⟨vt (by omega), rfl⟩
        · refine r_aload_n (pc := 26) dX1_hasRange_26 rfl (by first | rfl | exact isRefV_rf _) ?_
          refine r_getf (pc := 27) dX1_hasRange_27 fX1_13 (by first | assumption | exact isI.gx (by assumption) | exact isI.gc (by assumption) | exact isW.gx (by assumption) | exact isW.gF (by assumption) | exact isW.gT (by assumption) (by omega) | exact isW.gS (by assumption) (by omega) | exact isW.gK (by assumption) (by omega) | exact isW.g1 (by assumption) | exact isW.g2 (by assumption) | exact isW.g3 (by assumption) | exact isI.gx (isW.i0 (by assumption)) | exact isI.gc (isW.i0 (by assumption)) | exact isI.gx (isW.i1 (by assumption)) | exact isI.gc (isW.i1 (by assumption)) | exact isI.gx (isW.i2 (by assumption)) | exact isI.gc (isW.i2 (by assumption)) | exact isI.gx (isW.i3 (by assumption)) | exact isI.gc (isW.i3 (by assumption)) | exact isI.gx (isW.i4 (by assumption)) | exact isI.gc (isW.i4 (by assumption)) | exact isI.gx (isW.i5 (by assumption)) | exact isI.gc (isW.i5 (by assumption)) | exact isR.gx (by assumption) | exact isRd.gx (by assumption) | exact isSp.gx (by assumption) | exact isI.gx (isR.i (by assumption)) | exact isI.gx (isRd.i (by assumption)) | exact isI.gc (isRd.i (by assumption)) | exact isI.gx (isSp.i (by assumption)) | exact isW.gx (isR.w (by assumption)) | exact isW.gF (isR.w (by assumption)) | fail "no such object") (by rfl) ?_
          refine r_aload_n (pc := 30) dX1_hasRange_30 rfl (by first | rfl | exact isRefV_rf _) ?_
          refine r_getf (pc := 31) dX1_hasRange_31 fX1_7 (by first | assumption | exact isI.gx (by assumption) | exact isI.gc (by assumption) | exact isW.gx (by assumption) | exact isW.gF (by assumption) | exact isW.gT (by assumption) (by omega) | exact isW.gS (by assumption) (by omega) | exact isW.gK (by assumption) (by omega) | exact isW.g1 (by assumption) | exact isW.g2 (by assumption) | exact isW.g3 (by assumption) | exact isI.gx (isW.i0 (by assumption)) | exact isI.gc (isW.i0 (by assumption)) | exact isI.gx (isW.i1 (by assumption)) | exact isI.gc (isW.i1 (by assumption)) | exact isI.gx (isW.i2 (by assumption)) | exact isI.gc (isW.i2 (by assumption)) | exact isI.gx (isW.i3 (by assumption)) | exact isI.gc (isW.i3 (by assumption)) | exact isI.gx (isW.i4 (by assumption)) | exact isI.gc (isW.i4 (by assumption)) | exact isI.gx (isW.i5 (by assumption)) | exact isI.gc (isW.i5 (by assumption)) | exact isR.gx (by assumption) | exact isRd.gx (by assumption) | exact isSp.gx (by assumption) | exact isI.gx (isR.i (by assumption)) | exact isI.gx (isRd.i (by assumption)) | exact isI.gc (isRd.i (by assumption)) | exact isI.gx (isSp.i (by assumption)) | exact isW.gx (isR.w (by assumption)) | exact isW.gF (isR.w (by assumption)) | fail "no such object") (by rfl) ?_
          first | refine rj_alen (pc := 34) dX1_hasRange_34 (by first | assumption | exact isI.gx (by assumption) | exact isI.gc (by assumption) | exact isW.gx (by assumption) | exact isW.gF (by assumption) | exact isW.gT (by assumption) (by omega) | exact isW.gS (by assumption) (by omega) | exact isW.gK (by assumption) (by omega) | exact isW.g1 (by assumption) | exact isW.g2 (by assumption) | exact isW.g3 (by assumption) | exact isI.gx (isW.i0 (by assumption)) | exact isI.gc (isW.i0 (by assumption)) | exact isI.gx (isW.i1 (by assumption)) | exact isI.gc (isW.i1 (by assumption)) | exact isI.gx (isW.i2 (by assumption)) | exact isI.gc (isW.i2 (by assumption)) | exact isI.gx (isW.i3 (by assumption)) | exact isI.gc (isW.i3 (by assumption)) | exact isI.gx (isW.i4 (by assumption)) | exact isI.gc (isW.i4 (by assumption)) | exact isI.gx (isW.i5 (by assumption)) | exact isI.gc (isW.i5 (by assumption)) | exact isR.gx (by assumption) | exact isRd.gx (by assumption) | exact isSp.gx (by assumption) | exact isI.gx (isR.i (by assumption)) | exact isI.gx (isRd.i (by assumption)) | exact isI.gc (isRd.i (by assumption)) | exact isI.gx (isSp.i (by assumption)) | exact isW.gx (isR.w (by assumption)) | exact isW.gF (isR.w (by assumption)) | fail "no such object") ?_ | refine rj_alenR (pc := 34) dX1_hasRange_34 (by first | assumption | exact isI.gx (by assumption) | exact isI.gc (by assumption) | exact isW.gx (by assumption) | exact isW.gF (by assumption) | exact isW.gT (by assumption) (by omega) | exact isW.gS (by assumption) (by omega) | exact isW.gK (by assumption) (by omega) | exact isW.g1 (by assumption) | exact isW.g2 (by assumption) | exact isW.g3 (by assumption) | exact isI.gx (isW.i0 (by assumption)) | exact isI.gc (isW.i0 (by assumption)) | exact isI.gx (isW.i1 (by assumption)) | exact isI.gc (isW.i1 (by assumption)) | exact isI.gx (isW.i2 (by assumption)) | exact isI.gc (isW.i2 (by assumption)) | exact isI.gx (isW.i3 (by assumption)) | exact isI.gc (isW.i3 (by assumption)) | exact isI.gx (isW.i4 (by assumption)) | exact isI.gc (isW.i4 (by assumption)) | exact isI.gx (isW.i5 (by assumption)) | exact isI.gc (isW.i5 (by assumption)) | exact isR.gx (by assumption) | exact isRd.gx (by assumption) | exact isSp.gx (by assumption) | exact isI.gx (isR.i (by assumption)) | exact isI.gx (isRd.i (by assumption)) | exact isI.gc (isRd.i (by assumption)) | exact isI.gx (isSp.i (by assumption)) | exact isW.gx (isR.w (by assumption)) | exact isW.gF (isR.w (by assumption)) | fail "no such object") ?_
          refine rj_icmp_gt (pc := 35) (tgt := 42) dX1_hasRange_35 (by decide) (by first | exact b01_r | exact bz_r | omega | (constructor <;> omega) | apply_assumption | (apply atF_r; assumption) | fail "no range") (by first | exact b01_r | exact bz_r | omega | (constructor <;> omega) | apply_assumption | (apply atF_r; assumption) | fail "no range") (fun c_35 => ?_) (fun c_35 => ?_)
          · refine rj_iconst (pc := 42) dX1_hasRange_42 ?_
            refine r_ireturn (pc := 43) .boolean dX1_hasRange_43 rfl (by first | exact nar_J0 | exact nar_J1 | exact nar_b01 | exact nar_bz) ?_
            first
            | exact ⟨rfl, rfl⟩
            | exact ⟨vf (by omega), rfl⟩
            | exact ⟨vt (by omega), rfl⟩
          · refine rj_iconst (pc := 38) dX1_hasRange_38 ?_
            refine r_goto (pc := 39) (tgt := 43) dX1_hasRange_39 (by decide) ?_
            refine r_ireturn (pc := 43) .boolean dX1_hasRange_43 rfl (by first | exact nar_J0 | exact nar_J1 | exact nar_b01 | exact nar_bz) ?_
            first
            | exact ⟨rfl, rfl⟩
            | exact ⟨vf (by omega), rfl⟩
            | exact ⟨vt (by omega), rfl⟩
set_option maxHeartbeats 4000000 in
set_option maxRecDepth 100000 in
theorem ci_at {G : mG} {l : Launch} (d : Nat) {h : mH} {a n : Nat} {z : Int} {f : Nat → Int} (I : isI h a n z f) (hn : n ≤ 1000) (hz : InR z) {i : Int} (hi : InR i) : RUNM G l (d + 1) mX1_at [.ref a, .int (J i)] h (fun v h' => v = some (.int (J (atF n z f i))) ∧ h' = h) := by
  refine RUNM.of (by decide +kernel) (Nat.le_of_ble_eq_true rfl) ?_
  refine r_aload_n (pc := 0) dX1_at_0 rfl (by first | rfl | exact isRefV_rf _) ?_
  refine r_iload_n (pc := 1) dX1_at_1 rfl ?_
  refine r_callV1 (pc := 2) dX1_at_2 qX1_has kX1_17 vX1_has (by first | assumption | exact isI.gx (by assumption) | exact isI.gc (by assumption) | exact isW.gx (by assumption) | exact isW.gF (by assumption) | exact isW.gT (by assumption) (by omega) | exact isW.gS (by assumption) (by omega) | exact isW.gK (by assumption) (by omega) | exact isW.g1 (by assumption) | exact isW.g2 (by assumption) | exact isW.g3 (by assumption) | exact isI.gx (isW.i0 (by assumption)) | exact isI.gc (isW.i0 (by assumption)) | exact isI.gx (isW.i1 (by assumption)) | exact isI.gc (isW.i1 (by assumption)) | exact isI.gx (isW.i2 (by assumption)) | exact isI.gc (isW.i2 (by assumption)) | exact isI.gx (isW.i3 (by assumption)) | exact isI.gc (isW.i3 (by assumption)) | exact isI.gx (isW.i4 (by assumption)) | exact isI.gc (isW.i4 (by assumption)) | exact isI.gx (isW.i5 (by assumption)) | exact isI.gc (isW.i5 (by assumption)) | exact isR.gx (by assumption) | exact isRd.gx (by assumption) | exact isSp.gx (by assumption) | exact isI.gx (isR.i (by assumption)) | exact isI.gx (isRd.i (by assumption)) | exact isI.gc (isRd.i (by assumption)) | exact isI.gx (isSp.i (by assumption)) | exact isW.gx (isR.w (by assumption)) | exact isW.gF (isR.w (by assumption)) | fail "no such object") rfl rfl (Nat.le_of_ble_eq_true rfl) (ci_has _ I hn hz hi) (fun v_2 h_2 q_2 => ?_)
  obtain ⟨rfl, rfl⟩ := q_2
  refine rj_if_eq (pc := 5) (tgt := 17) dX1_at_5 (by decide) (by first | exact b01_r | exact bz_r | omega | (constructor <;> omega) | apply_assumption | (apply atF_r; assumption) | fail "no range") (fun c_5 => ?_) (fun c_5 => ?_)
  · try simp only [b01_0, bz_0, Classical.not_not] at c_5
    refine rj_iconst (pc := 17) dX1_at_17 ?_
    refine r_ireturn (pc := 18) .int dX1_at_18 rfl (by first | rfl | assumption) ?_
    first
    | exact ⟨by unfold atF; rw [if_pos c_5], rfl⟩
    | exact ⟨by unfold atF; rw [if_neg c_5], rfl⟩
  · try simp only [b01_0, bz_0, Classical.not_not] at c_5
    refine r_aload_n (pc := 8) dX1_at_8 rfl (by first | rfl | exact isRefV_rf _) ?_
    refine r_getf (pc := 9) dX1_at_9 fX1_7 (by first | assumption | exact isI.gx (by assumption) | exact isI.gc (by assumption) | exact isW.gx (by assumption) | exact isW.gF (by assumption) | exact isW.gT (by assumption) (by omega) | exact isW.gS (by assumption) (by omega) | exact isW.gK (by assumption) (by omega) | exact isW.g1 (by assumption) | exact isW.g2 (by assumption) | exact isW.g3 (by assumption) | exact isI.gx (isW.i0 (by assumption)) | exact isI.gc (isW.i0 (by assumption)) | exact isI.gx (isW.i1 (by assumption)) | exact isI.gc (isW.i1 (by assumption)) | exact isI.gx (isW.i2 (by assumption)) | exact isI.gc (isW.i2 (by assumption)) | exact isI.gx (isW.i3 (by assumption)) | exact isI.gc (isW.i3 (by assumption)) | exact isI.gx (isW.i4 (by assumption)) | exact isI.gc (isW.i4 (by assumption)) | exact isI.gx (isW.i5 (by assumption)) | exact isI.gc (isW.i5 (by assumption)) | exact isR.gx (by assumption) | exact isRd.gx (by assumption) | exact isSp.gx (by assumption) | exact isI.gx (isR.i (by assumption)) | exact isI.gx (isRd.i (by assumption)) | exact isI.gc (isRd.i (by assumption)) | exact isI.gx (isSp.i (by assumption)) | exact isW.gx (isR.w (by assumption)) | exact isW.gF (isR.w (by assumption)) | fail "no such object") (by rfl) ?_
    refine r_iload_n (pc := 12) dX1_at_12 rfl ?_
    refine rj_iald (pc := 13) dX1_at_13 (by first | assumption | exact isI.gx (by assumption) | exact isI.gc (by assumption) | exact isW.gx (by assumption) | exact isW.gF (by assumption) | exact isW.gT (by assumption) (by omega) | exact isW.gS (by assumption) (by omega) | exact isW.gK (by assumption) (by omega) | exact isW.g1 (by assumption) | exact isW.g2 (by assumption) | exact isW.g3 (by assumption) | exact isI.gx (isW.i0 (by assumption)) | exact isI.gc (isW.i0 (by assumption)) | exact isI.gx (isW.i1 (by assumption)) | exact isI.gc (isW.i1 (by assumption)) | exact isI.gx (isW.i2 (by assumption)) | exact isI.gc (isW.i2 (by assumption)) | exact isI.gx (isW.i3 (by assumption)) | exact isI.gc (isW.i3 (by assumption)) | exact isI.gx (isW.i4 (by assumption)) | exact isI.gc (isW.i4 (by assumption)) | exact isI.gx (isW.i5 (by assumption)) | exact isI.gc (isW.i5 (by assumption)) | exact isR.gx (by assumption) | exact isRd.gx (by assumption) | exact isSp.gx (by assumption) | exact isI.gx (isR.i (by assumption)) | exact isI.gx (isRd.i (by assumption)) | exact isI.gc (isRd.i (by assumption)) | exact isI.gx (isSp.i (by assumption)) | exact isW.gx (isR.w (by assumption)) | exact isW.gF (isR.w (by assumption)) | fail "no such object") (by first | exact b01_r | exact bz_r | omega | (constructor <;> omega) | apply_assumption | (apply atF_r; assumption) | fail "no range") (by first | exact b01_r | exact bz_r | omega | (constructor <;> omega) | apply_assumption | (apply atF_r; assumption) | fail "no range") (by first | exact b01_r | exact bz_r | omega | (constructor <;> omega) | apply_assumption | (apply atF_r; assumption) | fail "no range") rfl ?_
    refine r_goto (pc := 14) (tgt := 18) dX1_at_14 (by decide) ?_
    refine r_ireturn (pc := 18) .int dX1_at_18 rfl (by first | rfl | assumption) ?_
    first
    | exact ⟨by unfold atF; rw [if_pos c_5], rfl⟩
    | exact ⟨by unfold atF; rw [if_neg c_5], rfl⟩
set_option maxHeartbeats 4000000 in
set_option maxRecDepth 100000 in
theorem ci_put {G : mG} {l : Launch} (d : Nat) {h : mH} {a n : Nat} {z : Int} {f : Nat → Int} (I : isI h a n z f) (hn : n ≤ 1000) (hz : InR z) {i : Int} (hi : InR i) (x : Int) : RUNM G l (d + 1) mX1_put [.ref a, .int (J i), .int (J x)] h (fun v h' => v = none ∧ isI h' a n z (putF n z f i x) ∧ Same (iBlk a) h h') := by
  refine RUNM.of (by decide +kernel) (Nat.le_of_ble_eq_true rfl) ?_
  refine r_aload_n (pc := 0) dX1_put_0 rfl (by first | rfl | exact isRefV_rf _) ?_
  refine r_iload_n (pc := 1) dX1_put_1 rfl ?_
  refine r_callV1 (pc := 2) dX1_put_2 qX1_has kX1_17 vX1_has (by first | assumption | exact isI.gx (by assumption) | exact isI.gc (by assumption) | exact isW.gx (by assumption) | exact isW.gF (by assumption) | exact isW.gT (by assumption) (by omega) | exact isW.gS (by assumption) (by omega) | exact isW.gK (by assumption) (by omega) | exact isW.g1 (by assumption) | exact isW.g2 (by assumption) | exact isW.g3 (by assumption) | exact isI.gx (isW.i0 (by assumption)) | exact isI.gc (isW.i0 (by assumption)) | exact isI.gx (isW.i1 (by assumption)) | exact isI.gc (isW.i1 (by assumption)) | exact isI.gx (isW.i2 (by assumption)) | exact isI.gc (isW.i2 (by assumption)) | exact isI.gx (isW.i3 (by assumption)) | exact isI.gc (isW.i3 (by assumption)) | exact isI.gx (isW.i4 (by assumption)) | exact isI.gc (isW.i4 (by assumption)) | exact isI.gx (isW.i5 (by assumption)) | exact isI.gc (isW.i5 (by assumption)) | exact isR.gx (by assumption) | exact isRd.gx (by assumption) | exact isSp.gx (by assumption) | exact isI.gx (isR.i (by assumption)) | exact isI.gx (isRd.i (by assumption)) | exact isI.gc (isRd.i (by assumption)) | exact isI.gx (isSp.i (by assumption)) | exact isW.gx (isR.w (by assumption)) | exact isW.gF (isR.w (by assumption)) | fail "no such object") rfl rfl (Nat.le_of_ble_eq_true rfl) (ci_has _ I hn hz hi) (fun v_2 h_2 q_2 => ?_)
  obtain ⟨rfl, rfl⟩ := q_2
  refine rj_if_eq (pc := 5) (tgt := 15) dX1_put_5 (by decide) (by first | exact b01_r | exact bz_r | omega | (constructor <;> omega) | apply_assumption | (apply atF_r; assumption) | fail "no range") (fun c_5 => ?_) (fun c_5 => ?_)
  · try simp only [b01_0, bz_0, Classical.not_not] at c_5
    refine r_return (pc := 15) dX1_put_15 rfl ?_
    first
    | exact ⟨rfl, by unfold putF; rw [if_pos c_5]; exact hI_14, hS_14⟩
    | exact ⟨rfl, by unfold putF; rw [if_neg c_5]; exact I, Same.refl⟩
  · try simp only [b01_0, bz_0, Classical.not_not] at c_5
    refine r_aload_n (pc := 8) dX1_put_8 rfl (by first | rfl | exact isRefV_rf _) ?_
    refine r_getf (pc := 9) dX1_put_9 fX1_7 (by first | assumption | exact isI.gx (by assumption) | exact isI.gc (by assumption) | exact isW.gx (by assumption) | exact isW.gF (by assumption) | exact isW.gT (by assumption) (by omega) | exact isW.gS (by assumption) (by omega) | exact isW.gK (by assumption) (by omega) | exact isW.g1 (by assumption) | exact isW.g2 (by assumption) | exact isW.g3 (by assumption) | exact isI.gx (isW.i0 (by assumption)) | exact isI.gc (isW.i0 (by assumption)) | exact isI.gx (isW.i1 (by assumption)) | exact isI.gc (isW.i1 (by assumption)) | exact isI.gx (isW.i2 (by assumption)) | exact isI.gc (isW.i2 (by assumption)) | exact isI.gx (isW.i3 (by assumption)) | exact isI.gc (isW.i3 (by assumption)) | exact isI.gx (isW.i4 (by assumption)) | exact isI.gc (isW.i4 (by assumption)) | exact isI.gx (isW.i5 (by assumption)) | exact isI.gc (isW.i5 (by assumption)) | exact isR.gx (by assumption) | exact isRd.gx (by assumption) | exact isSp.gx (by assumption) | exact isI.gx (isR.i (by assumption)) | exact isI.gx (isRd.i (by assumption)) | exact isI.gc (isRd.i (by assumption)) | exact isI.gx (isSp.i (by assumption)) | exact isW.gx (isR.w (by assumption)) | exact isW.gF (isR.w (by assumption)) | fail "no such object") (by rfl) ?_
    refine r_iload_n (pc := 12) dX1_put_12 rfl ?_
    refine r_iload_n (pc := 13) dX1_put_13 rfl ?_
    refine rc_iast (pc := 14) dX1_put_14 (by assumption) (by first | exact b01_r | exact bz_r | omega | (constructor <;> omega) | apply_assumption | (apply atF_r; assumption) | fail "no range") (by first | exact b01_r | exact bz_r | omega | (constructor <;> omega) | apply_assumption | (apply atF_r; assumption) | fail "no range") (by first | exact b01_r | exact bz_r | omega | (constructor <;> omega) | apply_assumption | (apply atF_r; assumption) | fail "no range") (fun h_14 hI_14 hS_14 => ?_)
    refine r_return (pc := 15) dX1_put_15 rfl ?_
    first
    | exact ⟨rfl, by unfold putF; rw [if_pos c_5]; exact hI_14, hS_14⟩
    | exact ⟨rfl, by unfold putF; rw [if_neg c_5]; exact I, Same.refl⟩
set_option maxHeartbeats 4000000 in
set_option maxRecDepth 100000 in
theorem ci_append {G : mG} {l : Launch} (d : Nat) {h : mH} {a n : Nat} {z : Int} {f : Nat → Int} (I : isI h a n z f) (hn : n ≤ 1000) (hz : InR z) (x : Int) : RUNM G l (d) mX1_append [.ref a, .int (J x)] h (fun v h' => v = some (.int (J (b01 (0 ≤ z ∧ z < n)))) ∧ isI h' a n (if 0 ≤ z ∧ z < n then z + 1 else z) (if 0 ≤ z ∧ z < n then updI f z.toNat x else f) ∧ Same (iBlk a) h h') := by
  refine RUNM.of (by decide +kernel) (Nat.le_of_ble_eq_true rfl) ?_
  refine r_aload_n (pc := 0) dX1_append_0 rfl (by first | rfl | exact isRefV_rf _) ?_
  refine r_getf (pc := 1) dX1_append_1 fX1_13 (by first | assumption | exact isI.gx (by assumption) | exact isI.gc (by assumption) | exact isW.gx (by assumption) | exact isW.gF (by assumption) | exact isW.gT (by assumption) (by omega) | exact isW.gS (by assumption) (by omega) | exact isW.gK (by assumption) (by omega) | exact isW.g1 (by assumption) | exact isW.g2 (by assumption) | exact isW.g3 (by assumption) | exact isI.gx (isW.i0 (by assumption)) | exact isI.gc (isW.i0 (by assumption)) | exact isI.gx (isW.i1 (by assumption)) | exact isI.gc (isW.i1 (by assumption)) | exact isI.gx (isW.i2 (by assumption)) | exact isI.gc (isW.i2 (by assumption)) | exact isI.gx (isW.i3 (by assumption)) | exact isI.gc (isW.i3 (by assumption)) | exact isI.gx (isW.i4 (by assumption)) | exact isI.gc (isW.i4 (by assumption)) | exact isI.gx (isW.i5 (by assumption)) | exact isI.gc (isW.i5 (by assumption)) | exact isR.gx (by assumption) | exact isRd.gx (by assumption) | exact isSp.gx (by assumption) | exact isI.gx (isR.i (by assumption)) | exact isI.gx (isRd.i (by assumption)) | exact isI.gc (isRd.i (by assumption)) | exact isI.gx (isSp.i (by assumption)) | exact isW.gx (isR.w (by assumption)) | exact isW.gF (isR.w (by assumption)) | fail "no such object") (by rfl) ?_
  refine rj_if_lt (pc := 4) (tgt := 19) dX1_append_4 (by decide) (by first | exact b01_r | exact bz_r | omega | (constructor <;> omega) | apply_assumption | (apply atF_r; assumption) | fail "no range") (fun c_4 => ?_) (fun c_4 => ?_)
  · refine rj_iconst (pc := 19) dX1_append_19 ?_
    refine r_ireturn (pc := 20) .boolean dX1_append_20 rfl (by first | exact nar_J0 | exact nar_J1 | exact nar_b01 | exact nar_bz) ?_
    have hb : ¬ (0 ≤ z ∧ z < n) := by omega
    rw [if_neg hb, if_neg hb]
    exact ⟨vf hb, I, Same.refl⟩
  · refine r_aload_n (pc := 7) dX1_append_7 rfl (by first | rfl | exact isRefV_rf _) ?_
    refine r_getf (pc := 8) dX1_append_8 fX1_13 (by first | assumption | exact isI.gx (by assumption) | exact isI.gc (by assumption) | exact isW.gx (by assumption) | exact isW.gF (by assumption) | exact isW.gT (by assumption) (by omega) | exact isW.gS (by assumption) (by omega) | exact isW.gK (by assumption) (by omega) | exact isW.g1 (by assumption) | exact isW.g2 (by assumption) | exact isW.g3 (by assumption) | exact isI.gx (isW.i0 (by assumption)) | exact isI.gc (isW.i0 (by assumption)) | exact isI.gx (isW.i1 (by assumption)) | exact isI.gc (isW.i1 (by assumption)) | exact isI.gx (isW.i2 (by assumption)) | exact isI.gc (isW.i2 (by assumption)) | exact isI.gx (isW.i3 (by assumption)) | exact isI.gc (isW.i3 (by assumption)) | exact isI.gx (isW.i4 (by assumption)) | exact isI.gc (isW.i4 (by assumption)) | exact isI.gx (isW.i5 (by assumption)) | exact isI.gc (isW.i5 (by assumption)) | exact isR.gx (by assumption) | exact isRd.gx (by assumption) | exact isSp.gx (by assumption) | exact isI.gx (isR.i (by assumption)) | exact isI.gx (isRd.i (by assumption)) | exact isI.gc (isRd.i (by assumption)) | exact isI.gx (isSp.i (by assumption)) | exact isW.gx (isR.w (by assumption)) | exact isW.gF (isR.w (by assumption)) | fail "no such object") (by rfl) ?_
    refine r_aload_n (pc := 11) dX1_append_11 rfl (by first | rfl | exact isRefV_rf _) ?_
    refine r_getf (pc := 12) dX1_append_12 fX1_7 (by first | assumption | exact isI.gx (by assumption) | exact isI.gc (by assumption) | exact isW.gx (by assumption) | exact isW.gF (by assumption) | exact isW.gT (by assumption) (by omega) | exact isW.gS (by assumption) (by omega) | exact isW.gK (by assumption) (by omega) | exact isW.g1 (by assumption) | exact isW.g2 (by assumption) | exact isW.g3 (by assumption) | exact isI.gx (isW.i0 (by assumption)) | exact isI.gc (isW.i0 (by assumption)) | exact isI.gx (isW.i1 (by assumption)) | exact isI.gc (isW.i1 (by assumption)) | exact isI.gx (isW.i2 (by assumption)) | exact isI.gc (isW.i2 (by assumption)) | exact isI.gx (isW.i3 (by assumption)) | exact isI.gc (isW.i3 (by assumption)) | exact isI.gx (isW.i4 (by assumption)) | exact isI.gc (isW.i4 (by assumption)) | exact isI.gx (isW.i5 (by assumption)) | exact isI.gc (isW.i5 (by assumption)) | exact isR.gx (by assumption) | exact isRd.gx (by assumption) | exact isSp.gx (by assumption) | exact isI.gx (isR.i (by assumption)) | exact isI.gx (isRd.i (by assumption)) | exact isI.gc (isRd.i (by assumption)) | exact isI.gx (isSp.i (by assumption)) | exact isW.gx (isR.w (by assumption)) | exact isW.gF (isR.w (by assumption)) | fail "no such object") (by rfl) ?_
    first | refine rj_alen (pc := 15) dX1_append_15 (by first | assumption | exact isI.gx (by assumption) | exact isI.gc (by assumption) | exact isW.gx (by assumption) | exact isW.gF (by assumption) | exact isW.gT (by assumption) (by omega) | exact isW.gS (by assumption) (by omega) | exact isW.gK (by assumption) (by omega) | exact isW.g1 (by assumption) | exact isW.g2 (by assumption) | exact isW.g3 (by assumption) | exact isI.gx (isW.i0 (by assumption)) | exact isI.gc (isW.i0 (by assumption)) | exact isI.gx (isW.i1 (by assumption)) | exact isI.gc (isW.i1 (by assumption)) | exact isI.gx (isW.i2 (by assumption)) | exact isI.gc (isW.i2 (by assumption)) | exact isI.gx (isW.i3 (by assumption)) | exact isI.gc (isW.i3 (by assumption)) | exact isI.gx (isW.i4 (by assumption)) | exact isI.gc (isW.i4 (by assumption)) | exact isI.gx (isW.i5 (by assumption)) | exact isI.gc (isW.i5 (by assumption)) | exact isR.gx (by assumption) | exact isRd.gx (by assumption) | exact isSp.gx (by assumption) | exact isI.gx (isR.i (by assumption)) | exact isI.gx (isRd.i (by assumption)) | exact isI.gc (isRd.i (by assumption)) | exact isI.gx (isSp.i (by assumption)) | exact isW.gx (isR.w (by assumption)) | exact isW.gF (isR.w (by assumption)) | fail "no such object") ?_ | refine rj_alenR (pc := 15) dX1_append_15 (by first | assumption | exact isI.gx (by assumption) | exact isI.gc (by assumption) | exact isW.gx (by assumption) | exact isW.gF (by assumption) | exact isW.gT (by assumption) (by omega) | exact isW.gS (by assumption) (by omega) | exact isW.gK (by assumption) (by omega) | exact isW.g1 (by assumption) | exact isW.g2 (by assumption) | exact isW.g3 (by assumption) | exact isI.gx (isW.i0 (by assumption)) | exact isI.gc (isW.i0 (by assumption)) | exact isI.gx (isW.i1 (by assumption)) | exact isI.gc (isW.i1 (by assumption)) | exact isI.gx (isW.i2 (by assumption)) | exact isI.gc (isW.i2 (by assumption)) | exact isI.gx (isW.i3 (by assumption)) | exact isI.gc (isW.i3 (by assumption)) | exact isI.gx (isW.i4 (by assumption)) | exact isI.gc (isW.i4 (by assumption)) | exact isI.gx (isW.i5 (by assumption)) | exact isI.gc (isW.i5 (by assumption)) | exact isR.gx (by assumption) | exact isRd.gx (by assumption) | exact isSp.gx (by assumption) | exact isI.gx (isR.i (by assumption)) | exact isI.gx (isRd.i (by assumption)) | exact isI.gc (isRd.i (by assumption)) | exact isI.gx (isSp.i (by assumption)) | exact isW.gx (isR.w (by assumption)) | exact isW.gF (isR.w (by assumption)) | fail "no such object") ?_
    refine rj_icmp_lt (pc := 16) (tgt := 21) dX1_append_16 (by decide) (by first | exact b01_r | exact bz_r | omega | (constructor <;> omega) | apply_assumption | (apply atF_r; assumption) | fail "no range") (by first | exact b01_r | exact bz_r | omega | (constructor <;> omega) | apply_assumption | (apply atF_r; assumption) | fail "no range") (fun c_16 => ?_) (fun c_16 => ?_)
    · refine r_aload_n (pc := 21) dX1_append_21 rfl (by first | rfl | exact isRefV_rf _) ?_
      refine r_getf (pc := 22) dX1_append_22 fX1_7 (by first | assumption | exact isI.gx (by assumption) | exact isI.gc (by assumption) | exact isW.gx (by assumption) | exact isW.gF (by assumption) | exact isW.gT (by assumption) (by omega) | exact isW.gS (by assumption) (by omega) | exact isW.gK (by assumption) (by omega) | exact isW.g1 (by assumption) | exact isW.g2 (by assumption) | exact isW.g3 (by assumption) | exact isI.gx (isW.i0 (by assumption)) | exact isI.gc (isW.i0 (by assumption)) | exact isI.gx (isW.i1 (by assumption)) | exact isI.gc (isW.i1 (by assumption)) | exact isI.gx (isW.i2 (by assumption)) | exact isI.gc (isW.i2 (by assumption)) | exact isI.gx (isW.i3 (by assumption)) | exact isI.gc (isW.i3 (by assumption)) | exact isI.gx (isW.i4 (by assumption)) | exact isI.gc (isW.i4 (by assumption)) | exact isI.gx (isW.i5 (by assumption)) | exact isI.gc (isW.i5 (by assumption)) | exact isR.gx (by assumption) | exact isRd.gx (by assumption) | exact isSp.gx (by assumption) | exact isI.gx (isR.i (by assumption)) | exact isI.gx (isRd.i (by assumption)) | exact isI.gc (isRd.i (by assumption)) | exact isI.gx (isSp.i (by assumption)) | exact isW.gx (isR.w (by assumption)) | exact isW.gF (isR.w (by assumption)) | fail "no such object") (by rfl) ?_
      refine r_aload_n (pc := 25) dX1_append_25 rfl (by first | rfl | exact isRefV_rf _) ?_
      refine r_getf (pc := 26) dX1_append_26 fX1_13 (by first | assumption | exact isI.gx (by assumption) | exact isI.gc (by assumption) | exact isW.gx (by assumption) | exact isW.gF (by assumption) | exact isW.gT (by assumption) (by omega) | exact isW.gS (by assumption) (by omega) | exact isW.gK (by assumption) (by omega) | exact isW.g1 (by assumption) | exact isW.g2 (by assumption) | exact isW.g3 (by assumption) | exact isI.gx (isW.i0 (by assumption)) | exact isI.gc (isW.i0 (by assumption)) | exact isI.gx (isW.i1 (by assumption)) | exact isI.gc (isW.i1 (by assumption)) | exact isI.gx (isW.i2 (by assumption)) | exact isI.gc (isW.i2 (by assumption)) | exact isI.gx (isW.i3 (by assumption)) | exact isI.gc (isW.i3 (by assumption)) | exact isI.gx (isW.i4 (by assumption)) | exact isI.gc (isW.i4 (by assumption)) | exact isI.gx (isW.i5 (by assumption)) | exact isI.gc (isW.i5 (by assumption)) | exact isR.gx (by assumption) | exact isRd.gx (by assumption) | exact isSp.gx (by assumption) | exact isI.gx (isR.i (by assumption)) | exact isI.gx (isRd.i (by assumption)) | exact isI.gc (isRd.i (by assumption)) | exact isI.gx (isSp.i (by assumption)) | exact isW.gx (isR.w (by assumption)) | exact isW.gF (isR.w (by assumption)) | fail "no such object") (by rfl) ?_
      refine r_iload_n (pc := 29) dX1_append_29 rfl ?_
      refine rc_iast (pc := 30) dX1_append_30 (by assumption) (by first | exact b01_r | exact bz_r | omega | (constructor <;> omega) | apply_assumption | (apply atF_r; assumption) | fail "no range") (by first | exact b01_r | exact bz_r | omega | (constructor <;> omega) | apply_assumption | (apply atF_r; assumption) | fail "no range") (by first | exact b01_r | exact bz_r | omega | (constructor <;> omega) | apply_assumption | (apply atF_r; assumption) | fail "no range") (fun h_30 hI_30 hS_30 => ?_)
      refine r_aload_n (pc := 31) dX1_append_31 rfl (by first | rfl | exact isRefV_rf _) ?_
      refine r_dup (pc := 32) dX1_append_32 (by first | rfl | (cases ‹Option Nat› <;> rfl)) ?_
      refine r_getf (pc := 33) dX1_append_33 fX1_13 (by first | assumption | exact isI.gx (by assumption) | exact isI.gc (by assumption) | exact isW.gx (by assumption) | exact isW.gF (by assumption) | exact isW.gT (by assumption) (by omega) | exact isW.gS (by assumption) (by omega) | exact isW.gK (by assumption) (by omega) | exact isW.g1 (by assumption) | exact isW.g2 (by assumption) | exact isW.g3 (by assumption) | exact isI.gx (isW.i0 (by assumption)) | exact isI.gc (isW.i0 (by assumption)) | exact isI.gx (isW.i1 (by assumption)) | exact isI.gc (isW.i1 (by assumption)) | exact isI.gx (isW.i2 (by assumption)) | exact isI.gc (isW.i2 (by assumption)) | exact isI.gx (isW.i3 (by assumption)) | exact isI.gc (isW.i3 (by assumption)) | exact isI.gx (isW.i4 (by assumption)) | exact isI.gc (isW.i4 (by assumption)) | exact isI.gx (isW.i5 (by assumption)) | exact isI.gc (isW.i5 (by assumption)) | exact isR.gx (by assumption) | exact isRd.gx (by assumption) | exact isSp.gx (by assumption) | exact isI.gx (isR.i (by assumption)) | exact isI.gx (isRd.i (by assumption)) | exact isI.gc (isRd.i (by assumption)) | exact isI.gx (isSp.i (by assumption)) | exact isW.gx (isR.w (by assumption)) | exact isW.gF (isR.w (by assumption)) | fail "no such object") (by rfl) ?_
      refine rj_iconst (pc := 36) dX1_append_36 ?_
      refine rj_iadd (pc := 37) dX1_append_37 ?_
      refine rc_putz (pc := 38) dX1_append_38 fX1_13 (by first | assumption | exact isW.i0 (by assumption) | exact isW.i1 (by assumption) | exact isW.i2 (by assumption) | exact isW.i3 (by assumption) | exact isW.i4 (by assumption) | exact isW.i5 (by assumption) | exact isR.i (by assumption) | exact isRd.i (by assumption) | exact isSp.i (by assumption) | fail "no such row") (fun h_38 hI_38 hS_38 => ?_)
      refine rj_iconst (pc := 41) dX1_append_41 ?_
      refine r_ireturn (pc := 42) .boolean dX1_append_42 rfl (by first | exact nar_J0 | exact nar_J1 | exact nar_b01 | exact nar_bz) ?_
      have hb : 0 ≤ z ∧ z < n := by omega
      rw [if_pos hb, if_pos hb]
      exact ⟨vt hb, hI_38, hS_30.trans hS_38⟩
    · refine rj_iconst (pc := 19) dX1_append_19 ?_
      refine r_ireturn (pc := 20) .boolean dX1_append_20 rfl (by first | exact nar_J0 | exact nar_J1 | exact nar_b01 | exact nar_bz) ?_
      have hb : ¬ (0 ≤ z ∧ z < n) := by omega
      rw [if_neg hb, if_neg hb]
      exact ⟨vf hb, I, Same.refl⟩
def zerF (k : Nat) (f : Nat → Int) : Nat → Int := fun q => if q < k then 0 else f q
theorem zerF_0 (f : Nat → Int) : zerF 0 f = f := by funext q; simp [zerF]
theorem zerF_s (k : Nat) (f : Nat → Int) : updI (zerF k f) k 0 = zerF (k + 1) f := by
  funext q
  unfold updI zerF
  repeat' split
  all_goals first | rfl | (exfalso; omega)
set_option maxHeartbeats 4000000 in
set_option maxRecDepth 100000 in
theorem L_becomeZeros {G : mG} {l : Launch} (d : Nat) {a n Z : Nat} {f : Nat → Int} (x : Int) (hn : n ≤ 1000) (hZ : Z ≤ n) : ∀ (k t : Nat) (h : mH), isI h a n (Z : Int) (zerF t f) → t + k = Z → RUN G l (d) mX1_becomeZeros 24 [some (.ref a), some (.int (J x)), some (.int (J (t : Int)))] [] h (fun v h' => v = none ∧ isI h' a n (Z : Int) (zerF Z f) ∧ Same (iBlk a) h h') := by
  intro k
  induction k with
  | zero =>
    intro t h I ht
    refine r_iload_n (pc := 24) dX1_becomeZeros_24 rfl ?_
    refine r_aload_n (pc := 25) dX1_becomeZeros_25 rfl (by first | rfl | exact isRefV_rf _) ?_
    refine r_getf (pc := 26) dX1_becomeZeros_26 fX1_13 (by first | assumption | exact isI.gx (by assumption) | exact isI.gc (by assumption) | exact isW.gx (by assumption) | exact isW.gF (by assumption) | exact isW.gT (by assumption) (by omega) | exact isW.gS (by assumption) (by omega) | exact isW.gK (by assumption) (by omega) | exact isW.g1 (by assumption) | exact isW.g2 (by assumption) | exact isW.g3 (by assumption) | exact isI.gx (isW.i0 (by assumption)) | exact isI.gc (isW.i0 (by assumption)) | exact isI.gx (isW.i1 (by assumption)) | exact isI.gc (isW.i1 (by assumption)) | exact isI.gx (isW.i2 (by assumption)) | exact isI.gc (isW.i2 (by assumption)) | exact isI.gx (isW.i3 (by assumption)) | exact isI.gc (isW.i3 (by assumption)) | exact isI.gx (isW.i4 (by assumption)) | exact isI.gc (isW.i4 (by assumption)) | exact isI.gx (isW.i5 (by assumption)) | exact isI.gc (isW.i5 (by assumption)) | exact isR.gx (by assumption) | exact isRd.gx (by assumption) | exact isSp.gx (by assumption) | exact isI.gx (isR.i (by assumption)) | exact isI.gx (isRd.i (by assumption)) | exact isI.gc (isRd.i (by assumption)) | exact isI.gx (isSp.i (by assumption)) | exact isW.gx (isR.w (by assumption)) | exact isW.gF (isR.w (by assumption)) | fail "no such object") (by rfl) ?_
    refine rj_icmp_ge (pc := 29) (tgt := 45) dX1_becomeZeros_29 (by decide) (by first | exact b01_r | exact bz_r | omega | (constructor <;> omega) | apply_assumption | (apply atF_r; assumption) | fail "no range") (by first | exact b01_r | exact bz_r | omega | (constructor <;> omega) | apply_assumption | (apply atF_r; assumption) | fail "no range") (fun c_29 => ?_) (fun c_29 => ?_)
    · refine r_return (pc := 45) dX1_becomeZeros_45 rfl ?_
      obtain rfl : t = Z := by omega
      exact ⟨rfl, I, Same.refl⟩
    · exfalso; omega
  | succ k ih =>
    intro t h I ht
    refine r_iload_n (pc := 24) dX1_becomeZeros_24 rfl ?_
    refine r_aload_n (pc := 25) dX1_becomeZeros_25 rfl (by first | rfl | exact isRefV_rf _) ?_
    refine r_getf (pc := 26) dX1_becomeZeros_26 fX1_13 (by first | assumption | exact isI.gx (by assumption) | exact isI.gc (by assumption) | exact isW.gx (by assumption) | exact isW.gF (by assumption) | exact isW.gT (by assumption) (by omega) | exact isW.gS (by assumption) (by omega) | exact isW.gK (by assumption) (by omega) | exact isW.g1 (by assumption) | exact isW.g2 (by assumption) | exact isW.g3 (by assumption) | exact isI.gx (isW.i0 (by assumption)) | exact isI.gc (isW.i0 (by assumption)) | exact isI.gx (isW.i1 (by assumption)) | exact isI.gc (isW.i1 (by assumption)) | exact isI.gx (isW.i2 (by assumption)) | exact isI.gc (isW.i2 (by assumption)) | exact isI.gx (isW.i3 (by assumption)) | exact isI.gc (isW.i3 (by assumption)) | exact isI.gx (isW.i4 (by assumption)) | exact isI.gc (isW.i4 (by assumption)) | exact isI.gx (isW.i5 (by assumption)) | exact isI.gc (isW.i5 (by assumption)) | exact isR.gx (by assumption) | exact isRd.gx (by assumption) | exact isSp.gx (by assumption) | exact isI.gx (isR.i (by assumption)) | exact isI.gx (isRd.i (by assumption)) | exact isI.gc (isRd.i (by assumption)) | exact isI.gx (isSp.i (by assumption)) | exact isW.gx (isR.w (by assumption)) | exact isW.gF (isR.w (by assumption)) | fail "no such object") (by rfl) ?_
    refine rj_icmp_ge (pc := 29) (tgt := 45) dX1_becomeZeros_29 (by decide) (by first | exact b01_r | exact bz_r | omega | (constructor <;> omega) | apply_assumption | (apply atF_r; assumption) | fail "no range") (by first | exact b01_r | exact bz_r | omega | (constructor <;> omega) | apply_assumption | (apply atF_r; assumption) | fail "no range") (fun c_29 => ?_) (fun c_29 => ?_)
    · refine r_return (pc := 45) dX1_becomeZeros_45 rfl ?_
      exfalso; omega
    · refine r_aload_n (pc := 32) dX1_becomeZeros_32 rfl (by first | rfl | exact isRefV_rf _) ?_
      refine r_getf (pc := 33) dX1_becomeZeros_33 fX1_7 (by first | assumption | exact isI.gx (by assumption) | exact isI.gc (by assumption) | exact isW.gx (by assumption) | exact isW.gF (by assumption) | exact isW.gT (by assumption) (by omega) | exact isW.gS (by assumption) (by omega) | exact isW.gK (by assumption) (by omega) | exact isW.g1 (by assumption) | exact isW.g2 (by assumption) | exact isW.g3 (by assumption) | exact isI.gx (isW.i0 (by assumption)) | exact isI.gc (isW.i0 (by assumption)) | exact isI.gx (isW.i1 (by assumption)) | exact isI.gc (isW.i1 (by assumption)) | exact isI.gx (isW.i2 (by assumption)) | exact isI.gc (isW.i2 (by assumption)) | exact isI.gx (isW.i3 (by assumption)) | exact isI.gc (isW.i3 (by assumption)) | exact isI.gx (isW.i4 (by assumption)) | exact isI.gc (isW.i4 (by assumption)) | exact isI.gx (isW.i5 (by assumption)) | exact isI.gc (isW.i5 (by assumption)) | exact isR.gx (by assumption) | exact isRd.gx (by assumption) | exact isSp.gx (by assumption) | exact isI.gx (isR.i (by assumption)) | exact isI.gx (isRd.i (by assumption)) | exact isI.gc (isRd.i (by assumption)) | exact isI.gx (isSp.i (by assumption)) | exact isW.gx (isR.w (by assumption)) | exact isW.gF (isR.w (by assumption)) | fail "no such object") (by rfl) ?_
      refine r_iload_n (pc := 36) dX1_becomeZeros_36 rfl ?_
      refine rj_iconst (pc := 37) dX1_becomeZeros_37 ?_
      refine rc_iast (pc := 38) dX1_becomeZeros_38 (by assumption) (by first | exact b01_r | exact bz_r | omega | (constructor <;> omega) | apply_assumption | (apply atF_r; assumption) | fail "no range") (by first | exact b01_r | exact bz_r | omega | (constructor <;> omega) | apply_assumption | (apply atF_r; assumption) | fail "no range") (by first | exact b01_r | exact bz_r | omega | (constructor <;> omega) | apply_assumption | (apply atF_r; assumption) | fail "no range") (fun h_38 hI_38 hS_38 => ?_)
      refine rj_iinc (pc := 39) dX1_becomeZeros_39 (Nat.le_of_ble_eq_true rfl) rfl ?_
      dsimp only [lsSt, List.set, mLs, mEnt]
      refine r_goto (pc := 42) (tgt := 24) dX1_becomeZeros_42 (by decide) ?_
      rw [show ((t : Int)).toNat = t by omega, zerF_s] at hI_38
      have y := ih (t + 1) h_38 hI_38 (by omega)
      exact y.mono (fun v h' g => ⟨g.1, g.2.1, hS_38.trans g.2.2⟩)
set_option maxHeartbeats 4000000 in
set_option maxRecDepth 100000 in
theorem ci_becomeZeros {G : mG} {l : Launch} (d : Nat) {h : mH} {a n : Nat} {z : Int} {f : Nat → Int} (I : isI h a n z f) (hn : n ≤ 1000) (hz : InR z) {Z : Nat} (hZ : Z ≤ n) : RUNM G l (d) mX1_becomeZeros [.ref a, .int (J (Z : Int))] h (fun v h' => v = none ∧ isI h' a n (Z : Int) (zerF Z f) ∧ Same (iBlk a) h h') := by
  refine RUNM.of (by decide +kernel) (Nat.le_of_ble_eq_true rfl) ?_
  refine r_aload_n (pc := 0) dX1_becomeZeros_0 rfl (by first | rfl | exact isRefV_rf _) ?_
  refine r_iload_n (pc := 1) dX1_becomeZeros_1 rfl ?_
  refine rj_if_lt (pc := 2) (tgt := 14) dX1_becomeZeros_2 (by decide) (by first | exact b01_r | exact bz_r | omega | (constructor <;> omega) | apply_assumption | (apply atF_r; assumption) | fail "no range") (fun c_2 => ?_) (fun c_2 => ?_)
  · refine rj_iconst (pc := 14) dX1_becomeZeros_14 ?_
    refine r_goto (pc := 15) (tgt := 19) dX1_becomeZeros_15 (by decide) ?_
    refine rc_putz (pc := 19) dX1_becomeZeros_19 fX1_13 (by first | assumption | exact isW.i0 (by assumption) | exact isW.i1 (by assumption) | exact isW.i2 (by assumption) | exact isW.i3 (by assumption) | exact isW.i4 (by assumption) | exact isW.i5 (by assumption) | exact isR.i (by assumption) | exact isRd.i (by assumption) | exact isSp.i (by assumption) | fail "no such row") (fun h_19 hI_19 hS_19 => ?_)
    refine rj_iconst (pc := 22) dX1_becomeZeros_22 ?_
    refine r_istore_n (pc := 23) dX1_becomeZeros_23 (Nat.le_of_ble_eq_true rfl) ?_
    dsimp only [lsSt, List.set, mLs, mEnt]
    exfalso; omega
  · refine r_iload_n (pc := 5) dX1_becomeZeros_5 rfl ?_
    refine r_aload_n (pc := 6) dX1_becomeZeros_6 rfl (by first | rfl | exact isRefV_rf _) ?_
    refine r_getf (pc := 7) dX1_becomeZeros_7 fX1_7 (by first | assumption | exact isI.gx (by assumption) | exact isI.gc (by assumption) | exact isW.gx (by assumption) | exact isW.gF (by assumption) | exact isW.gT (by assumption) (by omega) | exact isW.gS (by assumption) (by omega) | exact isW.gK (by assumption) (by omega) | exact isW.g1 (by assumption) | exact isW.g2 (by assumption) | exact isW.g3 (by assumption) | exact isI.gx (isW.i0 (by assumption)) | exact isI.gc (isW.i0 (by assumption)) | exact isI.gx (isW.i1 (by assumption)) | exact isI.gc (isW.i1 (by assumption)) | exact isI.gx (isW.i2 (by assumption)) | exact isI.gc (isW.i2 (by assumption)) | exact isI.gx (isW.i3 (by assumption)) | exact isI.gc (isW.i3 (by assumption)) | exact isI.gx (isW.i4 (by assumption)) | exact isI.gc (isW.i4 (by assumption)) | exact isI.gx (isW.i5 (by assumption)) | exact isI.gc (isW.i5 (by assumption)) | exact isR.gx (by assumption) | exact isRd.gx (by assumption) | exact isSp.gx (by assumption) | exact isI.gx (isR.i (by assumption)) | exact isI.gx (isRd.i (by assumption)) | exact isI.gc (isRd.i (by assumption)) | exact isI.gx (isSp.i (by assumption)) | exact isW.gx (isR.w (by assumption)) | exact isW.gF (isR.w (by assumption)) | fail "no such object") (by rfl) ?_
    first | refine rj_alen (pc := 10) dX1_becomeZeros_10 (by first | assumption | exact isI.gx (by assumption) | exact isI.gc (by assumption) | exact isW.gx (by assumption) | exact isW.gF (by assumption) | exact isW.gT (by assumption) (by omega) | exact isW.gS (by assumption) (by omega) | exact isW.gK (by assumption) (by omega) | exact isW.g1 (by assumption) | exact isW.g2 (by assumption) | exact isW.g3 (by assumption) | exact isI.gx (isW.i0 (by assumption)) | exact isI.gc (isW.i0 (by assumption)) | exact isI.gx (isW.i1 (by assumption)) | exact isI.gc (isW.i1 (by assumption)) | exact isI.gx (isW.i2 (by assumption)) | exact isI.gc (isW.i2 (by assumption)) | exact isI.gx (isW.i3 (by assumption)) | exact isI.gc (isW.i3 (by assumption)) | exact isI.gx (isW.i4 (by assumption)) | exact isI.gc (isW.i4 (by assumption)) | exact isI.gx (isW.i5 (by assumption)) | exact isI.gc (isW.i5 (by assumption)) | exact isR.gx (by assumption) | exact isRd.gx (by assumption) | exact isSp.gx (by assumption) | exact isI.gx (isR.i (by assumption)) | exact isI.gx (isRd.i (by assumption)) | exact isI.gc (isRd.i (by assumption)) | exact isI.gx (isSp.i (by assumption)) | exact isW.gx (isR.w (by assumption)) | exact isW.gF (isR.w (by assumption)) | fail "no such object") ?_ | refine rj_alenR (pc := 10) dX1_becomeZeros_10 (by first | assumption | exact isI.gx (by assumption) | exact isI.gc (by assumption) | exact isW.gx (by assumption) | exact isW.gF (by assumption) | exact isW.gT (by assumption) (by omega) | exact isW.gS (by assumption) (by omega) | exact isW.gK (by assumption) (by omega) | exact isW.g1 (by assumption) | exact isW.g2 (by assumption) | exact isW.g3 (by assumption) | exact isI.gx (isW.i0 (by assumption)) | exact isI.gc (isW.i0 (by assumption)) | exact isI.gx (isW.i1 (by assumption)) | exact isI.gc (isW.i1 (by assumption)) | exact isI.gx (isW.i2 (by assumption)) | exact isI.gc (isW.i2 (by assumption)) | exact isI.gx (isW.i3 (by assumption)) | exact isI.gc (isW.i3 (by assumption)) | exact isI.gx (isW.i4 (by assumption)) | exact isI.gc (isW.i4 (by assumption)) | exact isI.gx (isW.i5 (by assumption)) | exact isI.gc (isW.i5 (by assumption)) | exact isR.gx (by assumption) | exact isRd.gx (by assumption) | exact isSp.gx (by assumption) | exact isI.gx (isR.i (by assumption)) | exact isI.gx (isRd.i (by assumption)) | exact isI.gc (isRd.i (by assumption)) | exact isI.gx (isSp.i (by assumption)) | exact isW.gx (isR.w (by assumption)) | exact isW.gF (isR.w (by assumption)) | fail "no such object") ?_
    refine rj_icmp_le (pc := 11) (tgt := 18) dX1_becomeZeros_11 (by decide) (by first | exact b01_r | exact bz_r | omega | (constructor <;> omega) | apply_assumption | (apply atF_r; assumption) | fail "no range") (by first | exact b01_r | exact bz_r | omega | (constructor <;> omega) | apply_assumption | (apply atF_r; assumption) | fail "no range") (fun c_11 => ?_) (fun c_11 => ?_)
    · refine r_iload_n (pc := 18) dX1_becomeZeros_18 rfl ?_
      refine rc_putz (pc := 19) dX1_becomeZeros_19 fX1_13 (by first | assumption | exact isW.i0 (by assumption) | exact isW.i1 (by assumption) | exact isW.i2 (by assumption) | exact isW.i3 (by assumption) | exact isW.i4 (by assumption) | exact isW.i5 (by assumption) | exact isR.i (by assumption) | exact isRd.i (by assumption) | exact isSp.i (by assumption) | fail "no such row") (fun h_19 hI_19 hS_19 => ?_)
      refine rj_iconst (pc := 22) dX1_becomeZeros_22 ?_
      refine r_istore_n (pc := 23) dX1_becomeZeros_23 (Nat.le_of_ble_eq_true rfl) ?_
      dsimp only [lsSt, List.set, mLs, mEnt]
      rw [← zerF_0 f] at hI_19
      have y := L_becomeZeros (G := G) (l := l) d (Z : Int) hn hZ Z 0 h_19 hI_19 (by omega)
      exact y.mono (fun v h' g => ⟨g.1, g.2.1, hS_19.trans g.2.2⟩)
    · refine rj_iconst (pc := 14) dX1_becomeZeros_14 ?_
      refine r_goto (pc := 15) (tgt := 19) dX1_becomeZeros_15 (by decide) ?_
      refine rc_putz (pc := 19) dX1_becomeZeros_19 fX1_13 (by first | assumption | exact isW.i0 (by assumption) | exact isW.i1 (by assumption) | exact isW.i2 (by assumption) | exact isW.i3 (by assumption) | exact isW.i4 (by assumption) | exact isW.i5 (by assumption) | exact isR.i (by assumption) | exact isRd.i (by assumption) | exact isSp.i (by assumption) | fail "no such row") (fun h_19 hI_19 hS_19 => ?_)
      refine rj_iconst (pc := 22) dX1_becomeZeros_22 ?_
      refine r_istore_n (pc := 23) dX1_becomeZeros_23 (Nat.le_of_ble_eq_true rfl) ?_
      dsimp only [lsSt, List.set, mLs, mEnt]
      exfalso; omega
def cpyF (k : Nat) (g f : Nat → Int) : Nat → Int := fun q => if q < k then g q else f q
theorem cpyF_0 (g f : Nat → Int) : cpyF 0 g f = f := by funext q; simp [cpyF]
theorem cpyF_s (k : Nat) (g f : Nat → Int) : updI (cpyF k g f) k (g k) = cpyF (k + 1) g f := by
  funext q
  unfold updI cpyF
  repeat' split
  all_goals first | rfl | (exfalso; omega) | (subst_vars; rfl)
set_option maxHeartbeats 4000000 in
set_option maxRecDepth 100000 in
theorem L_become {G : mG} {l : Launch} (d : Nat) {a n b m : Nat} {f fo : Nat → Int} (hn : n ≤ 1000) (hm : m ≤ 1000) {Z : Nat} (hZ : Z ≤ n) (hZ2 : Z ≤ m) (hab : b + 1 < a ∨ a + 1 < b) : ∀ (k t : Nat) (h : mH), isI h a n (Z : Int) (cpyF t fo f) → isI h b m (Z : Int) fo → t + k = Z → RUN G l (d) mX1_become 30 [some (.ref a), some (.ref b), some (.int (J (t : Int)))] [] h (fun v h' => v = none ∧ isI h' a n (Z : Int) (cpyF Z fo f) ∧ Same (iBlk a) h h') := by
  intro k
  induction k with
  | zero =>
    intro t h I I2 ht
    refine r_iload_n (pc := 30) dX1_become_30 rfl ?_
    refine r_aload_n (pc := 31) dX1_become_31 rfl (by first | rfl | exact isRefV_rf _) ?_
    refine r_getf (pc := 32) dX1_become_32 fX1_13 (by first | assumption | exact isI.gx (by assumption) | exact isI.gc (by assumption) | exact isW.gx (by assumption) | exact isW.gF (by assumption) | exact isW.gT (by assumption) (by omega) | exact isW.gS (by assumption) (by omega) | exact isW.gK (by assumption) (by omega) | exact isW.g1 (by assumption) | exact isW.g2 (by assumption) | exact isW.g3 (by assumption) | exact isI.gx (isW.i0 (by assumption)) | exact isI.gc (isW.i0 (by assumption)) | exact isI.gx (isW.i1 (by assumption)) | exact isI.gc (isW.i1 (by assumption)) | exact isI.gx (isW.i2 (by assumption)) | exact isI.gc (isW.i2 (by assumption)) | exact isI.gx (isW.i3 (by assumption)) | exact isI.gc (isW.i3 (by assumption)) | exact isI.gx (isW.i4 (by assumption)) | exact isI.gc (isW.i4 (by assumption)) | exact isI.gx (isW.i5 (by assumption)) | exact isI.gc (isW.i5 (by assumption)) | exact isR.gx (by assumption) | exact isRd.gx (by assumption) | exact isSp.gx (by assumption) | exact isI.gx (isR.i (by assumption)) | exact isI.gx (isRd.i (by assumption)) | exact isI.gc (isRd.i (by assumption)) | exact isI.gx (isSp.i (by assumption)) | exact isW.gx (isR.w (by assumption)) | exact isW.gF (isR.w (by assumption)) | fail "no such object") (by rfl) ?_
    refine rj_icmp_ge (pc := 35) (tgt := 65) dX1_become_35 (by decide) (by first | exact b01_r | exact bz_r | omega | (constructor <;> omega) | apply_assumption | (apply atF_r; assumption) | fail "no range") (by first | exact b01_r | exact bz_r | omega | (constructor <;> omega) | apply_assumption | (apply atF_r; assumption) | fail "no range") (fun c_35 => ?_) (fun c_35 => ?_)
    · refine r_return (pc := 65) dX1_become_65 rfl ?_
      obtain rfl : t = Z := by omega
      exact ⟨rfl, I, Same.refl⟩
    · exfalso; omega
  | succ k ih =>
    intro t h I I2 ht
    refine r_iload_n (pc := 30) dX1_become_30 rfl ?_
    refine r_aload_n (pc := 31) dX1_become_31 rfl (by first | rfl | exact isRefV_rf _) ?_
    refine r_getf (pc := 32) dX1_become_32 fX1_13 (by first | assumption | exact isI.gx (by assumption) | exact isI.gc (by assumption) | exact isW.gx (by assumption) | exact isW.gF (by assumption) | exact isW.gT (by assumption) (by omega) | exact isW.gS (by assumption) (by omega) | exact isW.gK (by assumption) (by omega) | exact isW.g1 (by assumption) | exact isW.g2 (by assumption) | exact isW.g3 (by assumption) | exact isI.gx (isW.i0 (by assumption)) | exact isI.gc (isW.i0 (by assumption)) | exact isI.gx (isW.i1 (by assumption)) | exact isI.gc (isW.i1 (by assumption)) | exact isI.gx (isW.i2 (by assumption)) | exact isI.gc (isW.i2 (by assumption)) | exact isI.gx (isW.i3 (by assumption)) | exact isI.gc (isW.i3 (by assumption)) | exact isI.gx (isW.i4 (by assumption)) | exact isI.gc (isW.i4 (by assumption)) | exact isI.gx (isW.i5 (by assumption)) | exact isI.gc (isW.i5 (by assumption)) | exact isR.gx (by assumption) | exact isRd.gx (by assumption) | exact isSp.gx (by assumption) | exact isI.gx (isR.i (by assumption)) | exact isI.gx (isRd.i (by assumption)) | exact isI.gc (isRd.i (by assumption)) | exact isI.gx (isSp.i (by assumption)) | exact isW.gx (isR.w (by assumption)) | exact isW.gF (isR.w (by assumption)) | fail "no such object") (by rfl) ?_
    refine rj_icmp_ge (pc := 35) (tgt := 65) dX1_become_35 (by decide) (by first | exact b01_r | exact bz_r | omega | (constructor <;> omega) | apply_assumption | (apply atF_r; assumption) | fail "no range") (by first | exact b01_r | exact bz_r | omega | (constructor <;> omega) | apply_assumption | (apply atF_r; assumption) | fail "no range") (fun c_35 => ?_) (fun c_35 => ?_)
    · refine r_return (pc := 65) dX1_become_65 rfl ?_
      exfalso; omega
    · refine r_iload_n (pc := 38) dX1_become_38 rfl ?_
      refine r_aload_n (pc := 39) dX1_become_39 rfl (by first | rfl | exact isRefV_rf _) ?_
      refine r_getf (pc := 40) dX1_become_40 fX1_7 (by first | assumption | exact isI.gx (by assumption) | exact isI.gc (by assumption) | exact isW.gx (by assumption) | exact isW.gF (by assumption) | exact isW.gT (by assumption) (by omega) | exact isW.gS (by assumption) (by omega) | exact isW.gK (by assumption) (by omega) | exact isW.g1 (by assumption) | exact isW.g2 (by assumption) | exact isW.g3 (by assumption) | exact isI.gx (isW.i0 (by assumption)) | exact isI.gc (isW.i0 (by assumption)) | exact isI.gx (isW.i1 (by assumption)) | exact isI.gc (isW.i1 (by assumption)) | exact isI.gx (isW.i2 (by assumption)) | exact isI.gc (isW.i2 (by assumption)) | exact isI.gx (isW.i3 (by assumption)) | exact isI.gc (isW.i3 (by assumption)) | exact isI.gx (isW.i4 (by assumption)) | exact isI.gc (isW.i4 (by assumption)) | exact isI.gx (isW.i5 (by assumption)) | exact isI.gc (isW.i5 (by assumption)) | exact isR.gx (by assumption) | exact isRd.gx (by assumption) | exact isSp.gx (by assumption) | exact isI.gx (isR.i (by assumption)) | exact isI.gx (isRd.i (by assumption)) | exact isI.gc (isRd.i (by assumption)) | exact isI.gx (isSp.i (by assumption)) | exact isW.gx (isR.w (by assumption)) | exact isW.gF (isR.w (by assumption)) | fail "no such object") (by rfl) ?_
      first | refine rj_alen (pc := 43) dX1_become_43 (by first | assumption | exact isI.gx (by assumption) | exact isI.gc (by assumption) | exact isW.gx (by assumption) | exact isW.gF (by assumption) | exact isW.gT (by assumption) (by omega) | exact isW.gS (by assumption) (by omega) | exact isW.gK (by assumption) (by omega) | exact isW.g1 (by assumption) | exact isW.g2 (by assumption) | exact isW.g3 (by assumption) | exact isI.gx (isW.i0 (by assumption)) | exact isI.gc (isW.i0 (by assumption)) | exact isI.gx (isW.i1 (by assumption)) | exact isI.gc (isW.i1 (by assumption)) | exact isI.gx (isW.i2 (by assumption)) | exact isI.gc (isW.i2 (by assumption)) | exact isI.gx (isW.i3 (by assumption)) | exact isI.gc (isW.i3 (by assumption)) | exact isI.gx (isW.i4 (by assumption)) | exact isI.gc (isW.i4 (by assumption)) | exact isI.gx (isW.i5 (by assumption)) | exact isI.gc (isW.i5 (by assumption)) | exact isR.gx (by assumption) | exact isRd.gx (by assumption) | exact isSp.gx (by assumption) | exact isI.gx (isR.i (by assumption)) | exact isI.gx (isRd.i (by assumption)) | exact isI.gc (isRd.i (by assumption)) | exact isI.gx (isSp.i (by assumption)) | exact isW.gx (isR.w (by assumption)) | exact isW.gF (isR.w (by assumption)) | fail "no such object") ?_ | refine rj_alenR (pc := 43) dX1_become_43 (by first | assumption | exact isI.gx (by assumption) | exact isI.gc (by assumption) | exact isW.gx (by assumption) | exact isW.gF (by assumption) | exact isW.gT (by assumption) (by omega) | exact isW.gS (by assumption) (by omega) | exact isW.gK (by assumption) (by omega) | exact isW.g1 (by assumption) | exact isW.g2 (by assumption) | exact isW.g3 (by assumption) | exact isI.gx (isW.i0 (by assumption)) | exact isI.gc (isW.i0 (by assumption)) | exact isI.gx (isW.i1 (by assumption)) | exact isI.gc (isW.i1 (by assumption)) | exact isI.gx (isW.i2 (by assumption)) | exact isI.gc (isW.i2 (by assumption)) | exact isI.gx (isW.i3 (by assumption)) | exact isI.gc (isW.i3 (by assumption)) | exact isI.gx (isW.i4 (by assumption)) | exact isI.gc (isW.i4 (by assumption)) | exact isI.gx (isW.i5 (by assumption)) | exact isI.gc (isW.i5 (by assumption)) | exact isR.gx (by assumption) | exact isRd.gx (by assumption) | exact isSp.gx (by assumption) | exact isI.gx (isR.i (by assumption)) | exact isI.gx (isRd.i (by assumption)) | exact isI.gc (isRd.i (by assumption)) | exact isI.gx (isSp.i (by assumption)) | exact isW.gx (isR.w (by assumption)) | exact isW.gF (isR.w (by assumption)) | fail "no such object") ?_
      refine rj_icmp_ge (pc := 44) (tgt := 65) dX1_become_44 (by decide) (by first | exact b01_r | exact bz_r | omega | (constructor <;> omega) | apply_assumption | (apply atF_r; assumption) | fail "no range") (by first | exact b01_r | exact bz_r | omega | (constructor <;> omega) | apply_assumption | (apply atF_r; assumption) | fail "no range") (fun c_44 => ?_) (fun c_44 => ?_)
      · refine r_return (pc := 65) dX1_become_65 rfl ?_
        exfalso; omega
      · refine r_aload_n (pc := 47) dX1_become_47 rfl (by first | rfl | exact isRefV_rf _) ?_
        refine r_getf (pc := 48) dX1_become_48 fX1_7 (by first | assumption | exact isI.gx (by assumption) | exact isI.gc (by assumption) | exact isW.gx (by assumption) | exact isW.gF (by assumption) | exact isW.gT (by assumption) (by omega) | exact isW.gS (by assumption) (by omega) | exact isW.gK (by assumption) (by omega) | exact isW.g1 (by assumption) | exact isW.g2 (by assumption) | exact isW.g3 (by assumption) | exact isI.gx (isW.i0 (by assumption)) | exact isI.gc (isW.i0 (by assumption)) | exact isI.gx (isW.i1 (by assumption)) | exact isI.gc (isW.i1 (by assumption)) | exact isI.gx (isW.i2 (by assumption)) | exact isI.gc (isW.i2 (by assumption)) | exact isI.gx (isW.i3 (by assumption)) | exact isI.gc (isW.i3 (by assumption)) | exact isI.gx (isW.i4 (by assumption)) | exact isI.gc (isW.i4 (by assumption)) | exact isI.gx (isW.i5 (by assumption)) | exact isI.gc (isW.i5 (by assumption)) | exact isR.gx (by assumption) | exact isRd.gx (by assumption) | exact isSp.gx (by assumption) | exact isI.gx (isR.i (by assumption)) | exact isI.gx (isRd.i (by assumption)) | exact isI.gc (isRd.i (by assumption)) | exact isI.gx (isSp.i (by assumption)) | exact isW.gx (isR.w (by assumption)) | exact isW.gF (isR.w (by assumption)) | fail "no such object") (by rfl) ?_
        refine r_iload_n (pc := 51) dX1_become_51 rfl ?_
        refine r_aload_n (pc := 52) dX1_become_52 rfl (by first | rfl | exact isRefV_rf _) ?_
        refine r_getf (pc := 53) dX1_become_53 fX1_7 (by first | assumption | exact isI.gx (by assumption) | exact isI.gc (by assumption) | exact isW.gx (by assumption) | exact isW.gF (by assumption) | exact isW.gT (by assumption) (by omega) | exact isW.gS (by assumption) (by omega) | exact isW.gK (by assumption) (by omega) | exact isW.g1 (by assumption) | exact isW.g2 (by assumption) | exact isW.g3 (by assumption) | exact isI.gx (isW.i0 (by assumption)) | exact isI.gc (isW.i0 (by assumption)) | exact isI.gx (isW.i1 (by assumption)) | exact isI.gc (isW.i1 (by assumption)) | exact isI.gx (isW.i2 (by assumption)) | exact isI.gc (isW.i2 (by assumption)) | exact isI.gx (isW.i3 (by assumption)) | exact isI.gc (isW.i3 (by assumption)) | exact isI.gx (isW.i4 (by assumption)) | exact isI.gc (isW.i4 (by assumption)) | exact isI.gx (isW.i5 (by assumption)) | exact isI.gc (isW.i5 (by assumption)) | exact isR.gx (by assumption) | exact isRd.gx (by assumption) | exact isSp.gx (by assumption) | exact isI.gx (isR.i (by assumption)) | exact isI.gx (isRd.i (by assumption)) | exact isI.gc (isRd.i (by assumption)) | exact isI.gx (isSp.i (by assumption)) | exact isW.gx (isR.w (by assumption)) | exact isW.gF (isR.w (by assumption)) | fail "no such object") (by rfl) ?_
        refine r_iload_n (pc := 56) dX1_become_56 rfl ?_
        refine rj_iald (pc := 57) dX1_become_57 (by first | assumption | exact isI.gx (by assumption) | exact isI.gc (by assumption) | exact isW.gx (by assumption) | exact isW.gF (by assumption) | exact isW.gT (by assumption) (by omega) | exact isW.gS (by assumption) (by omega) | exact isW.gK (by assumption) (by omega) | exact isW.g1 (by assumption) | exact isW.g2 (by assumption) | exact isW.g3 (by assumption) | exact isI.gx (isW.i0 (by assumption)) | exact isI.gc (isW.i0 (by assumption)) | exact isI.gx (isW.i1 (by assumption)) | exact isI.gc (isW.i1 (by assumption)) | exact isI.gx (isW.i2 (by assumption)) | exact isI.gc (isW.i2 (by assumption)) | exact isI.gx (isW.i3 (by assumption)) | exact isI.gc (isW.i3 (by assumption)) | exact isI.gx (isW.i4 (by assumption)) | exact isI.gc (isW.i4 (by assumption)) | exact isI.gx (isW.i5 (by assumption)) | exact isI.gc (isW.i5 (by assumption)) | exact isR.gx (by assumption) | exact isRd.gx (by assumption) | exact isSp.gx (by assumption) | exact isI.gx (isR.i (by assumption)) | exact isI.gx (isRd.i (by assumption)) | exact isI.gc (isRd.i (by assumption)) | exact isI.gx (isSp.i (by assumption)) | exact isW.gx (isR.w (by assumption)) | exact isW.gF (isR.w (by assumption)) | fail "no such object") (by first | exact b01_r | exact bz_r | omega | (constructor <;> omega) | apply_assumption | (apply atF_r; assumption) | fail "no range") (by first | exact b01_r | exact bz_r | omega | (constructor <;> omega) | apply_assumption | (apply atF_r; assumption) | fail "no range") (by first | exact b01_r | exact bz_r | omega | (constructor <;> omega) | apply_assumption | (apply atF_r; assumption) | fail "no range") rfl ?_
        refine rc_iast (pc := 58) dX1_become_58 (by assumption) (by first | exact b01_r | exact bz_r | omega | (constructor <;> omega) | apply_assumption | (apply atF_r; assumption) | fail "no range") (by first | exact b01_r | exact bz_r | omega | (constructor <;> omega) | apply_assumption | (apply atF_r; assumption) | fail "no range") (by first | exact b01_r | exact bz_r | omega | (constructor <;> omega) | apply_assumption | (apply atF_r; assumption) | fail "no range") (fun h_58 hI_58 hS_58 => ?_)
        refine rj_iinc (pc := 59) dX1_become_59 (Nat.le_of_ble_eq_true rfl) rfl ?_
        dsimp only [lsSt, List.set, mLs, mEnt]
        refine r_goto (pc := 62) (tgt := 30) dX1_become_62 (by decide) ?_
        rw [show ((t : Int)).toNat = t by omega, cpyF_s] at hI_58
        have y := ih (t + 1) h_58 hI_58 (I2.kept hS_58 (fun q => by unfold iBlk at q; omega) (fun q => by unfold iBlk at q; omega)) (by omega)
        exact y.mono (fun v h' g => ⟨g.1, g.2.1, hS_58.trans g.2.2⟩)
set_option maxHeartbeats 4000000 in
set_option maxRecDepth 100000 in
theorem ci_become {G : mG} {l : Launch} (d : Nat) {h : mH} {z : Int} {a n b m : Nat} {f fo : Nat → Int} (hn : n ≤ 1000) (hm : m ≤ 1000) {Z : Nat} (hZ : Z ≤ n) (hZ2 : Z ≤ m) (hab : b + 1 < a ∨ a + 1 < b) (I : isI h a n z f) (I2 : isI h b m (Z : Int) fo) : RUNM G l (d) mX1_become [.ref a, .ref b] h (fun v h' => v = none ∧ isI h' a n (Z : Int) (cpyF Z fo f) ∧ Same (iBlk a) h h') := by
  refine RUNM.of (by decide +kernel) (Nat.le_of_ble_eq_true rfl) ?_
  refine r_aload_n (pc := 0) dX1_become_0 rfl (by first | rfl | exact isRefV_rf _) ?_
  refine r_aload_n (pc := 1) dX1_become_1 rfl (by first | rfl | exact isRefV_rf _) ?_
  refine r_getf (pc := 2) dX1_become_2 fX1_13 (by first | assumption | exact isI.gx (by assumption) | exact isI.gc (by assumption) | exact isW.gx (by assumption) | exact isW.gF (by assumption) | exact isW.gT (by assumption) (by omega) | exact isW.gS (by assumption) (by omega) | exact isW.gK (by assumption) (by omega) | exact isW.g1 (by assumption) | exact isW.g2 (by assumption) | exact isW.g3 (by assumption) | exact isI.gx (isW.i0 (by assumption)) | exact isI.gc (isW.i0 (by assumption)) | exact isI.gx (isW.i1 (by assumption)) | exact isI.gc (isW.i1 (by assumption)) | exact isI.gx (isW.i2 (by assumption)) | exact isI.gc (isW.i2 (by assumption)) | exact isI.gx (isW.i3 (by assumption)) | exact isI.gc (isW.i3 (by assumption)) | exact isI.gx (isW.i4 (by assumption)) | exact isI.gc (isW.i4 (by assumption)) | exact isI.gx (isW.i5 (by assumption)) | exact isI.gc (isW.i5 (by assumption)) | exact isR.gx (by assumption) | exact isRd.gx (by assumption) | exact isSp.gx (by assumption) | exact isI.gx (isR.i (by assumption)) | exact isI.gx (isRd.i (by assumption)) | exact isI.gc (isRd.i (by assumption)) | exact isI.gx (isSp.i (by assumption)) | exact isW.gx (isR.w (by assumption)) | exact isW.gF (isR.w (by assumption)) | fail "no such object") (by rfl) ?_
  refine r_aload_n (pc := 5) dX1_become_5 rfl (by first | rfl | exact isRefV_rf _) ?_
  refine r_getf (pc := 6) dX1_become_6 fX1_7 (by first | assumption | exact isI.gx (by assumption) | exact isI.gc (by assumption) | exact isW.gx (by assumption) | exact isW.gF (by assumption) | exact isW.gT (by assumption) (by omega) | exact isW.gS (by assumption) (by omega) | exact isW.gK (by assumption) (by omega) | exact isW.g1 (by assumption) | exact isW.g2 (by assumption) | exact isW.g3 (by assumption) | exact isI.gx (isW.i0 (by assumption)) | exact isI.gc (isW.i0 (by assumption)) | exact isI.gx (isW.i1 (by assumption)) | exact isI.gc (isW.i1 (by assumption)) | exact isI.gx (isW.i2 (by assumption)) | exact isI.gc (isW.i2 (by assumption)) | exact isI.gx (isW.i3 (by assumption)) | exact isI.gc (isW.i3 (by assumption)) | exact isI.gx (isW.i4 (by assumption)) | exact isI.gc (isW.i4 (by assumption)) | exact isI.gx (isW.i5 (by assumption)) | exact isI.gc (isW.i5 (by assumption)) | exact isR.gx (by assumption) | exact isRd.gx (by assumption) | exact isSp.gx (by assumption) | exact isI.gx (isR.i (by assumption)) | exact isI.gx (isRd.i (by assumption)) | exact isI.gc (isRd.i (by assumption)) | exact isI.gx (isSp.i (by assumption)) | exact isW.gx (isR.w (by assumption)) | exact isW.gF (isR.w (by assumption)) | fail "no such object") (by rfl) ?_
  first | refine rj_alen (pc := 9) dX1_become_9 (by first | assumption | exact isI.gx (by assumption) | exact isI.gc (by assumption) | exact isW.gx (by assumption) | exact isW.gF (by assumption) | exact isW.gT (by assumption) (by omega) | exact isW.gS (by assumption) (by omega) | exact isW.gK (by assumption) (by omega) | exact isW.g1 (by assumption) | exact isW.g2 (by assumption) | exact isW.g3 (by assumption) | exact isI.gx (isW.i0 (by assumption)) | exact isI.gc (isW.i0 (by assumption)) | exact isI.gx (isW.i1 (by assumption)) | exact isI.gc (isW.i1 (by assumption)) | exact isI.gx (isW.i2 (by assumption)) | exact isI.gc (isW.i2 (by assumption)) | exact isI.gx (isW.i3 (by assumption)) | exact isI.gc (isW.i3 (by assumption)) | exact isI.gx (isW.i4 (by assumption)) | exact isI.gc (isW.i4 (by assumption)) | exact isI.gx (isW.i5 (by assumption)) | exact isI.gc (isW.i5 (by assumption)) | exact isR.gx (by assumption) | exact isRd.gx (by assumption) | exact isSp.gx (by assumption) | exact isI.gx (isR.i (by assumption)) | exact isI.gx (isRd.i (by assumption)) | exact isI.gc (isRd.i (by assumption)) | exact isI.gx (isSp.i (by assumption)) | exact isW.gx (isR.w (by assumption)) | exact isW.gF (isR.w (by assumption)) | fail "no such object") ?_ | refine rj_alenR (pc := 9) dX1_become_9 (by first | assumption | exact isI.gx (by assumption) | exact isI.gc (by assumption) | exact isW.gx (by assumption) | exact isW.gF (by assumption) | exact isW.gT (by assumption) (by omega) | exact isW.gS (by assumption) (by omega) | exact isW.gK (by assumption) (by omega) | exact isW.g1 (by assumption) | exact isW.g2 (by assumption) | exact isW.g3 (by assumption) | exact isI.gx (isW.i0 (by assumption)) | exact isI.gc (isW.i0 (by assumption)) | exact isI.gx (isW.i1 (by assumption)) | exact isI.gc (isW.i1 (by assumption)) | exact isI.gx (isW.i2 (by assumption)) | exact isI.gc (isW.i2 (by assumption)) | exact isI.gx (isW.i3 (by assumption)) | exact isI.gc (isW.i3 (by assumption)) | exact isI.gx (isW.i4 (by assumption)) | exact isI.gc (isW.i4 (by assumption)) | exact isI.gx (isW.i5 (by assumption)) | exact isI.gc (isW.i5 (by assumption)) | exact isR.gx (by assumption) | exact isRd.gx (by assumption) | exact isSp.gx (by assumption) | exact isI.gx (isR.i (by assumption)) | exact isI.gx (isRd.i (by assumption)) | exact isI.gc (isRd.i (by assumption)) | exact isI.gx (isSp.i (by assumption)) | exact isW.gx (isR.w (by assumption)) | exact isW.gF (isR.w (by assumption)) | fail "no such object") ?_
  refine rj_icmp_ge (pc := 10) (tgt := 20) dX1_become_10 (by decide) (by first | exact b01_r | exact bz_r | omega | (constructor <;> omega) | apply_assumption | (apply atF_r; assumption) | fail "no range") (by first | exact b01_r | exact bz_r | omega | (constructor <;> omega) | apply_assumption | (apply atF_r; assumption) | fail "no range") (fun c_10 => ?_) (fun c_10 => ?_)
  · refine r_aload_n (pc := 20) dX1_become_20 rfl (by first | rfl | exact isRefV_rf _) ?_
    refine r_getf (pc := 21) dX1_become_21 fX1_7 (by first | assumption | exact isI.gx (by assumption) | exact isI.gc (by assumption) | exact isW.gx (by assumption) | exact isW.gF (by assumption) | exact isW.gT (by assumption) (by omega) | exact isW.gS (by assumption) (by omega) | exact isW.gK (by assumption) (by omega) | exact isW.g1 (by assumption) | exact isW.g2 (by assumption) | exact isW.g3 (by assumption) | exact isI.gx (isW.i0 (by assumption)) | exact isI.gc (isW.i0 (by assumption)) | exact isI.gx (isW.i1 (by assumption)) | exact isI.gc (isW.i1 (by assumption)) | exact isI.gx (isW.i2 (by assumption)) | exact isI.gc (isW.i2 (by assumption)) | exact isI.gx (isW.i3 (by assumption)) | exact isI.gc (isW.i3 (by assumption)) | exact isI.gx (isW.i4 (by assumption)) | exact isI.gc (isW.i4 (by assumption)) | exact isI.gx (isW.i5 (by assumption)) | exact isI.gc (isW.i5 (by assumption)) | exact isR.gx (by assumption) | exact isRd.gx (by assumption) | exact isSp.gx (by assumption) | exact isI.gx (isR.i (by assumption)) | exact isI.gx (isRd.i (by assumption)) | exact isI.gc (isRd.i (by assumption)) | exact isI.gx (isSp.i (by assumption)) | exact isW.gx (isR.w (by assumption)) | exact isW.gF (isR.w (by assumption)) | fail "no such object") (by rfl) ?_
    first | refine rj_alen (pc := 24) dX1_become_24 (by first | assumption | exact isI.gx (by assumption) | exact isI.gc (by assumption) | exact isW.gx (by assumption) | exact isW.gF (by assumption) | exact isW.gT (by assumption) (by omega) | exact isW.gS (by assumption) (by omega) | exact isW.gK (by assumption) (by omega) | exact isW.g1 (by assumption) | exact isW.g2 (by assumption) | exact isW.g3 (by assumption) | exact isI.gx (isW.i0 (by assumption)) | exact isI.gc (isW.i0 (by assumption)) | exact isI.gx (isW.i1 (by assumption)) | exact isI.gc (isW.i1 (by assumption)) | exact isI.gx (isW.i2 (by assumption)) | exact isI.gc (isW.i2 (by assumption)) | exact isI.gx (isW.i3 (by assumption)) | exact isI.gc (isW.i3 (by assumption)) | exact isI.gx (isW.i4 (by assumption)) | exact isI.gc (isW.i4 (by assumption)) | exact isI.gx (isW.i5 (by assumption)) | exact isI.gc (isW.i5 (by assumption)) | exact isR.gx (by assumption) | exact isRd.gx (by assumption) | exact isSp.gx (by assumption) | exact isI.gx (isR.i (by assumption)) | exact isI.gx (isRd.i (by assumption)) | exact isI.gc (isRd.i (by assumption)) | exact isI.gx (isSp.i (by assumption)) | exact isW.gx (isR.w (by assumption)) | exact isW.gF (isR.w (by assumption)) | fail "no such object") ?_ | refine rj_alenR (pc := 24) dX1_become_24 (by first | assumption | exact isI.gx (by assumption) | exact isI.gc (by assumption) | exact isW.gx (by assumption) | exact isW.gF (by assumption) | exact isW.gT (by assumption) (by omega) | exact isW.gS (by assumption) (by omega) | exact isW.gK (by assumption) (by omega) | exact isW.g1 (by assumption) | exact isW.g2 (by assumption) | exact isW.g3 (by assumption) | exact isI.gx (isW.i0 (by assumption)) | exact isI.gc (isW.i0 (by assumption)) | exact isI.gx (isW.i1 (by assumption)) | exact isI.gc (isW.i1 (by assumption)) | exact isI.gx (isW.i2 (by assumption)) | exact isI.gc (isW.i2 (by assumption)) | exact isI.gx (isW.i3 (by assumption)) | exact isI.gc (isW.i3 (by assumption)) | exact isI.gx (isW.i4 (by assumption)) | exact isI.gc (isW.i4 (by assumption)) | exact isI.gx (isW.i5 (by assumption)) | exact isI.gc (isW.i5 (by assumption)) | exact isR.gx (by assumption) | exact isRd.gx (by assumption) | exact isSp.gx (by assumption) | exact isI.gx (isR.i (by assumption)) | exact isI.gx (isRd.i (by assumption)) | exact isI.gc (isRd.i (by assumption)) | exact isI.gx (isSp.i (by assumption)) | exact isW.gx (isR.w (by assumption)) | exact isW.gF (isR.w (by assumption)) | fail "no such object") ?_
    refine rc_putz (pc := 25) dX1_become_25 fX1_13 (by first | assumption | exact isW.i0 (by assumption) | exact isW.i1 (by assumption) | exact isW.i2 (by assumption) | exact isW.i3 (by assumption) | exact isW.i4 (by assumption) | exact isW.i5 (by assumption) | exact isR.i (by assumption) | exact isRd.i (by assumption) | exact isSp.i (by assumption) | fail "no such row") (fun h_25 hI_25 hS_25 => ?_)
    refine rj_iconst (pc := 28) dX1_become_28 ?_
    refine r_istore_n (pc := 29) dX1_become_29 (Nat.le_of_ble_eq_true rfl) ?_
    dsimp only [lsSt, List.set, mLs, mEnt]
    try (rw [show (n : Int) = (Z : Int) by omega] at hI_25)
    rw [← cpyF_0 fo f] at hI_25
    have y := L_become (G := G) (l := l) d hn hm hZ hZ2 hab Z 0 h_25 hI_25 (I2.kept hS_25 (fun q => by unfold iBlk at q; omega) (fun q => by unfold iBlk at q; omega)) (by omega)
    exact y.mono (fun v h' g => ⟨g.1, g.2.1, hS_25.trans g.2.2⟩)
  · refine r_aload_n (pc := 13) dX1_become_13 rfl (by first | rfl | exact isRefV_rf _) ?_
    refine r_getf (pc := 14) dX1_become_14 fX1_13 (by first | assumption | exact isI.gx (by assumption) | exact isI.gc (by assumption) | exact isW.gx (by assumption) | exact isW.gF (by assumption) | exact isW.gT (by assumption) (by omega) | exact isW.gS (by assumption) (by omega) | exact isW.gK (by assumption) (by omega) | exact isW.g1 (by assumption) | exact isW.g2 (by assumption) | exact isW.g3 (by assumption) | exact isI.gx (isW.i0 (by assumption)) | exact isI.gc (isW.i0 (by assumption)) | exact isI.gx (isW.i1 (by assumption)) | exact isI.gc (isW.i1 (by assumption)) | exact isI.gx (isW.i2 (by assumption)) | exact isI.gc (isW.i2 (by assumption)) | exact isI.gx (isW.i3 (by assumption)) | exact isI.gc (isW.i3 (by assumption)) | exact isI.gx (isW.i4 (by assumption)) | exact isI.gc (isW.i4 (by assumption)) | exact isI.gx (isW.i5 (by assumption)) | exact isI.gc (isW.i5 (by assumption)) | exact isR.gx (by assumption) | exact isRd.gx (by assumption) | exact isSp.gx (by assumption) | exact isI.gx (isR.i (by assumption)) | exact isI.gx (isRd.i (by assumption)) | exact isI.gc (isRd.i (by assumption)) | exact isI.gx (isSp.i (by assumption)) | exact isW.gx (isR.w (by assumption)) | exact isW.gF (isR.w (by assumption)) | fail "no such object") (by rfl) ?_
    refine r_goto (pc := 17) (tgt := 25) dX1_become_17 (by decide) ?_
    refine rc_putz (pc := 25) dX1_become_25 fX1_13 (by first | assumption | exact isW.i0 (by assumption) | exact isW.i1 (by assumption) | exact isW.i2 (by assumption) | exact isW.i3 (by assumption) | exact isW.i4 (by assumption) | exact isW.i5 (by assumption) | exact isR.i (by assumption) | exact isRd.i (by assumption) | exact isSp.i (by assumption) | fail "no such row") (fun h_25 hI_25 hS_25 => ?_)
    refine rj_iconst (pc := 28) dX1_become_28 ?_
    refine r_istore_n (pc := 29) dX1_become_29 (Nat.le_of_ble_eq_true rfl) ?_
    dsimp only [lsSt, List.set, mLs, mEnt]
    try (rw [show (n : Int) = (Z : Int) by omega] at hI_25)
    rw [← cpyF_0 fo f] at hI_25
    have y := L_become (G := G) (l := l) d hn hm hZ hZ2 hab Z 0 h_25 hI_25 (I2.kept hS_25 (fun q => by unfold iBlk at q; omega) (fun q => by unfold iBlk at q; omega)) (by omega)
    exact y.mono (fun v h' g => ⟨g.1, g.2.1, hS_25.trans g.2.2⟩)
def notB (v : Int) (f : Nat → Int) (q : Nat) : Bool := decide (¬ f q = v)
def drA (v : Int) (f : Nat → Int) : Nat → Nat → Int
  | 0 => f
  | n + 1 => if f n = v then drA v f n else updI (drA v f n) (cnt (notB v f) n).toNat (f n)
theorem drA_n {v : Int} {f : Nat → Int} : ∀ (n q : Nat), n ≤ q → drA v f n q = f q
  | 0, _, _ => rfl
  | n + 1, q, h => by
    have hc := cnt_r (notB v f) n
    unfold drA
    split
    · exact drA_n n q (by omega)
    · rw [updI_n (by omega)]
      exact drA_n n q (by omega)
set_option maxHeartbeats 4000000 in
set_option maxRecDepth 100000 in
theorem L_drop {G : mG} {l : Launch} (d : Nat) {a n Z : Nat} {f : Nat → Int} {x : Int} (hx : InR x) (hn : n ≤ 1000) (hZ : Z ≤ n) (hf : ∀ q, InR (f q)) : ∀ (k t : Nat) (h : mH), isI h a n (Z : Int) (drA x f t) → t + k = Z → RUN G l (d) mX1_drop 4 [some (.ref a), some (.int (J x)), some (.int (J (cnt (notB x f) t))), some (.int (J (t : Int)))] [] h (fun v h' => v = none ∧ isI h' a n (cnt (notB x f) Z) (drA x f Z) ∧ Same (iBlk a) h h') := by
  intro k
  induction k with
  | zero =>
    intro t h I ht
    refine r_iload_n (pc := 4) dX1_drop_4 rfl ?_
    refine r_aload_n (pc := 5) dX1_drop_5 rfl (by first | rfl | exact isRefV_rf _) ?_
    refine r_getf (pc := 6) dX1_drop_6 fX1_13 (by first | assumption | exact isI.gx (by assumption) | exact isI.gc (by assumption) | exact isW.gx (by assumption) | exact isW.gF (by assumption) | exact isW.gT (by assumption) (by omega) | exact isW.gS (by assumption) (by omega) | exact isW.gK (by assumption) (by omega) | exact isW.g1 (by assumption) | exact isW.g2 (by assumption) | exact isW.g3 (by assumption) | exact isI.gx (isW.i0 (by assumption)) | exact isI.gc (isW.i0 (by assumption)) | exact isI.gx (isW.i1 (by assumption)) | exact isI.gc (isW.i1 (by assumption)) | exact isI.gx (isW.i2 (by assumption)) | exact isI.gc (isW.i2 (by assumption)) | exact isI.gx (isW.i3 (by assumption)) | exact isI.gc (isW.i3 (by assumption)) | exact isI.gx (isW.i4 (by assumption)) | exact isI.gc (isW.i4 (by assumption)) | exact isI.gx (isW.i5 (by assumption)) | exact isI.gc (isW.i5 (by assumption)) | exact isR.gx (by assumption) | exact isRd.gx (by assumption) | exact isSp.gx (by assumption) | exact isI.gx (isR.i (by assumption)) | exact isI.gx (isRd.i (by assumption)) | exact isI.gc (isRd.i (by assumption)) | exact isI.gx (isSp.i (by assumption)) | exact isW.gx (isR.w (by assumption)) | exact isW.gF (isR.w (by assumption)) | fail "no such object") (by rfl) ?_
    refine rj_icmp_ge (pc := 9) (tgt := 52) dX1_drop_9 (by decide) (by first | exact b01_r | exact bz_r | omega | (constructor <;> omega) | apply_assumption | (apply atF_r; assumption) | fail "no range") (by first | exact b01_r | exact bz_r | omega | (constructor <;> omega) | apply_assumption | (apply atF_r; assumption) | fail "no range") (fun c_9 => ?_) (fun c_9 => ?_)
    · refine r_aload_n (pc := 52) dX1_drop_52 rfl (by first | rfl | exact isRefV_rf _) ?_
      refine r_iload_n (pc := 53) dX1_drop_53 rfl ?_
      refine rc_putz (pc := 54) dX1_drop_54 fX1_13 (by first | assumption | exact isW.i0 (by assumption) | exact isW.i1 (by assumption) | exact isW.i2 (by assumption) | exact isW.i3 (by assumption) | exact isW.i4 (by assumption) | exact isW.i5 (by assumption) | exact isR.i (by assumption) | exact isRd.i (by assumption) | exact isSp.i (by assumption) | fail "no such row") (fun h_54 hI_54 hS_54 => ?_)
      refine r_return (pc := 57) dX1_drop_57 rfl ?_
      obtain rfl : t = Z := by omega
      exact ⟨rfl, hI_54, hS_54⟩
    · exfalso; omega
  | succ k ih =>
    intro t h I ht
    have hc := cnt_r (notB x f) t
    have hft := hf t
    have e0 : drA x f t t = f t := drA_n t t (Nat.le_refl _)
    refine r_iload_n (pc := 4) dX1_drop_4 rfl ?_
    refine r_aload_n (pc := 5) dX1_drop_5 rfl (by first | rfl | exact isRefV_rf _) ?_
    refine r_getf (pc := 6) dX1_drop_6 fX1_13 (by first | assumption | exact isI.gx (by assumption) | exact isI.gc (by assumption) | exact isW.gx (by assumption) | exact isW.gF (by assumption) | exact isW.gT (by assumption) (by omega) | exact isW.gS (by assumption) (by omega) | exact isW.gK (by assumption) (by omega) | exact isW.g1 (by assumption) | exact isW.g2 (by assumption) | exact isW.g3 (by assumption) | exact isI.gx (isW.i0 (by assumption)) | exact isI.gc (isW.i0 (by assumption)) | exact isI.gx (isW.i1 (by assumption)) | exact isI.gc (isW.i1 (by assumption)) | exact isI.gx (isW.i2 (by assumption)) | exact isI.gc (isW.i2 (by assumption)) | exact isI.gx (isW.i3 (by assumption)) | exact isI.gc (isW.i3 (by assumption)) | exact isI.gx (isW.i4 (by assumption)) | exact isI.gc (isW.i4 (by assumption)) | exact isI.gx (isW.i5 (by assumption)) | exact isI.gc (isW.i5 (by assumption)) | exact isR.gx (by assumption) | exact isRd.gx (by assumption) | exact isSp.gx (by assumption) | exact isI.gx (isR.i (by assumption)) | exact isI.gx (isRd.i (by assumption)) | exact isI.gc (isRd.i (by assumption)) | exact isI.gx (isSp.i (by assumption)) | exact isW.gx (isR.w (by assumption)) | exact isW.gF (isR.w (by assumption)) | fail "no such object") (by rfl) ?_
    refine rj_icmp_ge (pc := 9) (tgt := 52) dX1_drop_9 (by decide) (by first | exact b01_r | exact bz_r | omega | (constructor <;> omega) | apply_assumption | (apply atF_r; assumption) | fail "no range") (by first | exact b01_r | exact bz_r | omega | (constructor <;> omega) | apply_assumption | (apply atF_r; assumption) | fail "no range") (fun c_9 => ?_) (fun c_9 => ?_)
    · refine r_aload_n (pc := 52) dX1_drop_52 rfl (by first | rfl | exact isRefV_rf _) ?_
      refine r_iload_n (pc := 53) dX1_drop_53 rfl ?_
      refine rc_putz (pc := 54) dX1_drop_54 fX1_13 (by first | assumption | exact isW.i0 (by assumption) | exact isW.i1 (by assumption) | exact isW.i2 (by assumption) | exact isW.i3 (by assumption) | exact isW.i4 (by assumption) | exact isW.i5 (by assumption) | exact isR.i (by assumption) | exact isRd.i (by assumption) | exact isSp.i (by assumption) | fail "no such row") (fun h_54 hI_54 hS_54 => ?_)
      refine r_return (pc := 57) dX1_drop_57 rfl ?_
      exfalso; omega
    · refine r_iload_n (pc := 12) dX1_drop_12 rfl ?_
      refine r_aload_n (pc := 13) dX1_drop_13 rfl (by first | rfl | exact isRefV_rf _) ?_
      refine r_getf (pc := 14) dX1_drop_14 fX1_7 (by first | assumption | exact isI.gx (by assumption) | exact isI.gc (by assumption) | exact isW.gx (by assumption) | exact isW.gF (by assumption) | exact isW.gT (by assumption) (by omega) | exact isW.gS (by assumption) (by omega) | exact isW.gK (by assumption) (by omega) | exact isW.g1 (by assumption) | exact isW.g2 (by assumption) | exact isW.g3 (by assumption) | exact isI.gx (isW.i0 (by assumption)) | exact isI.gc (isW.i0 (by assumption)) | exact isI.gx (isW.i1 (by assumption)) | exact isI.gc (isW.i1 (by assumption)) | exact isI.gx (isW.i2 (by assumption)) | exact isI.gc (isW.i2 (by assumption)) | exact isI.gx (isW.i3 (by assumption)) | exact isI.gc (isW.i3 (by assumption)) | exact isI.gx (isW.i4 (by assumption)) | exact isI.gc (isW.i4 (by assumption)) | exact isI.gx (isW.i5 (by assumption)) | exact isI.gc (isW.i5 (by assumption)) | exact isR.gx (by assumption) | exact isRd.gx (by assumption) | exact isSp.gx (by assumption) | exact isI.gx (isR.i (by assumption)) | exact isI.gx (isRd.i (by assumption)) | exact isI.gc (isRd.i (by assumption)) | exact isI.gx (isSp.i (by assumption)) | exact isW.gx (isR.w (by assumption)) | exact isW.gF (isR.w (by assumption)) | fail "no such object") (by rfl) ?_
      first | refine rj_alen (pc := 17) dX1_drop_17 (by first | assumption | exact isI.gx (by assumption) | exact isI.gc (by assumption) | exact isW.gx (by assumption) | exact isW.gF (by assumption) | exact isW.gT (by assumption) (by omega) | exact isW.gS (by assumption) (by omega) | exact isW.gK (by assumption) (by omega) | exact isW.g1 (by assumption) | exact isW.g2 (by assumption) | exact isW.g3 (by assumption) | exact isI.gx (isW.i0 (by assumption)) | exact isI.gc (isW.i0 (by assumption)) | exact isI.gx (isW.i1 (by assumption)) | exact isI.gc (isW.i1 (by assumption)) | exact isI.gx (isW.i2 (by assumption)) | exact isI.gc (isW.i2 (by assumption)) | exact isI.gx (isW.i3 (by assumption)) | exact isI.gc (isW.i3 (by assumption)) | exact isI.gx (isW.i4 (by assumption)) | exact isI.gc (isW.i4 (by assumption)) | exact isI.gx (isW.i5 (by assumption)) | exact isI.gc (isW.i5 (by assumption)) | exact isR.gx (by assumption) | exact isRd.gx (by assumption) | exact isSp.gx (by assumption) | exact isI.gx (isR.i (by assumption)) | exact isI.gx (isRd.i (by assumption)) | exact isI.gc (isRd.i (by assumption)) | exact isI.gx (isSp.i (by assumption)) | exact isW.gx (isR.w (by assumption)) | exact isW.gF (isR.w (by assumption)) | fail "no such object") ?_ | refine rj_alenR (pc := 17) dX1_drop_17 (by first | assumption | exact isI.gx (by assumption) | exact isI.gc (by assumption) | exact isW.gx (by assumption) | exact isW.gF (by assumption) | exact isW.gT (by assumption) (by omega) | exact isW.gS (by assumption) (by omega) | exact isW.gK (by assumption) (by omega) | exact isW.g1 (by assumption) | exact isW.g2 (by assumption) | exact isW.g3 (by assumption) | exact isI.gx (isW.i0 (by assumption)) | exact isI.gc (isW.i0 (by assumption)) | exact isI.gx (isW.i1 (by assumption)) | exact isI.gc (isW.i1 (by assumption)) | exact isI.gx (isW.i2 (by assumption)) | exact isI.gc (isW.i2 (by assumption)) | exact isI.gx (isW.i3 (by assumption)) | exact isI.gc (isW.i3 (by assumption)) | exact isI.gx (isW.i4 (by assumption)) | exact isI.gc (isW.i4 (by assumption)) | exact isI.gx (isW.i5 (by assumption)) | exact isI.gc (isW.i5 (by assumption)) | exact isR.gx (by assumption) | exact isRd.gx (by assumption) | exact isSp.gx (by assumption) | exact isI.gx (isR.i (by assumption)) | exact isI.gx (isRd.i (by assumption)) | exact isI.gc (isRd.i (by assumption)) | exact isI.gx (isSp.i (by assumption)) | exact isW.gx (isR.w (by assumption)) | exact isW.gF (isR.w (by assumption)) | fail "no such object") ?_
      refine rj_icmp_ge (pc := 18) (tgt := 52) dX1_drop_18 (by decide) (by first | exact b01_r | exact bz_r | omega | (constructor <;> omega) | apply_assumption | (apply atF_r; assumption) | fail "no range") (by first | exact b01_r | exact bz_r | omega | (constructor <;> omega) | apply_assumption | (apply atF_r; assumption) | fail "no range") (fun c_18 => ?_) (fun c_18 => ?_)
      · refine r_aload_n (pc := 52) dX1_drop_52 rfl (by first | rfl | exact isRefV_rf _) ?_
        refine r_iload_n (pc := 53) dX1_drop_53 rfl ?_
        refine rc_putz (pc := 54) dX1_drop_54 fX1_13 (by first | assumption | exact isW.i0 (by assumption) | exact isW.i1 (by assumption) | exact isW.i2 (by assumption) | exact isW.i3 (by assumption) | exact isW.i4 (by assumption) | exact isW.i5 (by assumption) | exact isR.i (by assumption) | exact isRd.i (by assumption) | exact isSp.i (by assumption) | fail "no such row") (fun h_54 hI_54 hS_54 => ?_)
        refine r_return (pc := 57) dX1_drop_57 rfl ?_
        exfalso; omega
      · refine r_aload_n (pc := 21) dX1_drop_21 rfl (by first | rfl | exact isRefV_rf _) ?_
        refine r_getf (pc := 22) dX1_drop_22 fX1_7 (by first | assumption | exact isI.gx (by assumption) | exact isI.gc (by assumption) | exact isW.gx (by assumption) | exact isW.gF (by assumption) | exact isW.gT (by assumption) (by omega) | exact isW.gS (by assumption) (by omega) | exact isW.gK (by assumption) (by omega) | exact isW.g1 (by assumption) | exact isW.g2 (by assumption) | exact isW.g3 (by assumption) | exact isI.gx (isW.i0 (by assumption)) | exact isI.gc (isW.i0 (by assumption)) | exact isI.gx (isW.i1 (by assumption)) | exact isI.gc (isW.i1 (by assumption)) | exact isI.gx (isW.i2 (by assumption)) | exact isI.gc (isW.i2 (by assumption)) | exact isI.gx (isW.i3 (by assumption)) | exact isI.gc (isW.i3 (by assumption)) | exact isI.gx (isW.i4 (by assumption)) | exact isI.gc (isW.i4 (by assumption)) | exact isI.gx (isW.i5 (by assumption)) | exact isI.gc (isW.i5 (by assumption)) | exact isR.gx (by assumption) | exact isRd.gx (by assumption) | exact isSp.gx (by assumption) | exact isI.gx (isR.i (by assumption)) | exact isI.gx (isRd.i (by assumption)) | exact isI.gc (isRd.i (by assumption)) | exact isI.gx (isSp.i (by assumption)) | exact isW.gx (isR.w (by assumption)) | exact isW.gF (isR.w (by assumption)) | fail "no such object") (by rfl) ?_
        refine r_iload_n (pc := 25) dX1_drop_25 rfl ?_
        refine rj_iald (pc := 26) (j := t) dX1_drop_26 (by first | assumption | exact isI.gx (by assumption) | exact isI.gc (by assumption) | exact isW.gx (by assumption) | exact isW.gF (by assumption) | exact isW.gT (by assumption) (by omega) | exact isW.gS (by assumption) (by omega) | exact isW.gK (by assumption) (by omega) | exact isW.g1 (by assumption) | exact isW.g2 (by assumption) | exact isW.g3 (by assumption) | exact isI.gx (isW.i0 (by assumption)) | exact isI.gc (isW.i0 (by assumption)) | exact isI.gx (isW.i1 (by assumption)) | exact isI.gc (isW.i1 (by assumption)) | exact isI.gx (isW.i2 (by assumption)) | exact isI.gc (isW.i2 (by assumption)) | exact isI.gx (isW.i3 (by assumption)) | exact isI.gc (isW.i3 (by assumption)) | exact isI.gx (isW.i4 (by assumption)) | exact isI.gc (isW.i4 (by assumption)) | exact isI.gx (isW.i5 (by assumption)) | exact isI.gc (isW.i5 (by assumption)) | exact isR.gx (by assumption) | exact isRd.gx (by assumption) | exact isSp.gx (by assumption) | exact isI.gx (isR.i (by assumption)) | exact isI.gx (isRd.i (by assumption)) | exact isI.gc (isRd.i (by assumption)) | exact isI.gx (isSp.i (by assumption)) | exact isW.gx (isR.w (by assumption)) | exact isW.gF (isR.w (by assumption)) | fail "no such object") (by first | exact b01_r | exact bz_r | omega | (constructor <;> omega) | apply_assumption | (apply atF_r; assumption) | fail "no range") (by first | exact b01_r | exact bz_r | omega | (constructor <;> omega) | apply_assumption | (apply atF_r; assumption) | fail "no range") (by first | exact b01_r | exact bz_r | omega | (constructor <;> omega) | apply_assumption | (apply atF_r; assumption) | fail "no range") (by omega) ?_
        rw [e0]
        refine r_iload_n (pc := 27) dX1_drop_27 rfl ?_
        refine rj_icmp_eq (pc := 28) (tgt := 46) dX1_drop_28 (by decide) (by first | exact b01_r | exact bz_r | omega | (constructor <;> omega) | apply_assumption | (apply atF_r; assumption) | fail "no range") (by first | exact b01_r | exact bz_r | omega | (constructor <;> omega) | apply_assumption | (apply atF_r; assumption) | fail "no range") (fun c_28 => ?_) (fun c_28 => ?_)
        · refine rj_iinc (pc := 46) dX1_drop_46 (Nat.le_of_ble_eq_true rfl) rfl ?_
          dsimp only [lsSt, List.set, mLs, mEnt]
          refine r_goto (pc := 49) (tgt := 4) dX1_drop_49 (by decide) ?_
          have y := ih (t + 1) h (by rw [drA, if_pos c_28]; exact I) (by omega)
          rw [← cnt_f (by simp [notB, c_28]), Int.add_zero] at y
          exact y
        · refine r_aload_n (pc := 31) dX1_drop_31 rfl (by first | rfl | exact isRefV_rf _) ?_
          refine r_getf (pc := 32) dX1_drop_32 fX1_7 (by first | assumption | exact isI.gx (by assumption) | exact isI.gc (by assumption) | exact isW.gx (by assumption) | exact isW.gF (by assumption) | exact isW.gT (by assumption) (by omega) | exact isW.gS (by assumption) (by omega) | exact isW.gK (by assumption) (by omega) | exact isW.g1 (by assumption) | exact isW.g2 (by assumption) | exact isW.g3 (by assumption) | exact isI.gx (isW.i0 (by assumption)) | exact isI.gc (isW.i0 (by assumption)) | exact isI.gx (isW.i1 (by assumption)) | exact isI.gc (isW.i1 (by assumption)) | exact isI.gx (isW.i2 (by assumption)) | exact isI.gc (isW.i2 (by assumption)) | exact isI.gx (isW.i3 (by assumption)) | exact isI.gc (isW.i3 (by assumption)) | exact isI.gx (isW.i4 (by assumption)) | exact isI.gc (isW.i4 (by assumption)) | exact isI.gx (isW.i5 (by assumption)) | exact isI.gc (isW.i5 (by assumption)) | exact isR.gx (by assumption) | exact isRd.gx (by assumption) | exact isSp.gx (by assumption) | exact isI.gx (isR.i (by assumption)) | exact isI.gx (isRd.i (by assumption)) | exact isI.gc (isRd.i (by assumption)) | exact isI.gx (isSp.i (by assumption)) | exact isW.gx (isR.w (by assumption)) | exact isW.gF (isR.w (by assumption)) | fail "no such object") (by rfl) ?_
          refine r_iload_n (pc := 35) dX1_drop_35 rfl ?_
          refine r_aload_n (pc := 36) dX1_drop_36 rfl (by first | rfl | exact isRefV_rf _) ?_
          refine r_getf (pc := 37) dX1_drop_37 fX1_7 (by first | assumption | exact isI.gx (by assumption) | exact isI.gc (by assumption) | exact isW.gx (by assumption) | exact isW.gF (by assumption) | exact isW.gT (by assumption) (by omega) | exact isW.gS (by assumption) (by omega) | exact isW.gK (by assumption) (by omega) | exact isW.g1 (by assumption) | exact isW.g2 (by assumption) | exact isW.g3 (by assumption) | exact isI.gx (isW.i0 (by assumption)) | exact isI.gc (isW.i0 (by assumption)) | exact isI.gx (isW.i1 (by assumption)) | exact isI.gc (isW.i1 (by assumption)) | exact isI.gx (isW.i2 (by assumption)) | exact isI.gc (isW.i2 (by assumption)) | exact isI.gx (isW.i3 (by assumption)) | exact isI.gc (isW.i3 (by assumption)) | exact isI.gx (isW.i4 (by assumption)) | exact isI.gc (isW.i4 (by assumption)) | exact isI.gx (isW.i5 (by assumption)) | exact isI.gc (isW.i5 (by assumption)) | exact isR.gx (by assumption) | exact isRd.gx (by assumption) | exact isSp.gx (by assumption) | exact isI.gx (isR.i (by assumption)) | exact isI.gx (isRd.i (by assumption)) | exact isI.gc (isRd.i (by assumption)) | exact isI.gx (isSp.i (by assumption)) | exact isW.gx (isR.w (by assumption)) | exact isW.gF (isR.w (by assumption)) | fail "no such object") (by rfl) ?_
          refine r_iload_n (pc := 40) dX1_drop_40 rfl ?_
          refine rj_iald (pc := 41) (j := t) dX1_drop_41 (by first | assumption | exact isI.gx (by assumption) | exact isI.gc (by assumption) | exact isW.gx (by assumption) | exact isW.gF (by assumption) | exact isW.gT (by assumption) (by omega) | exact isW.gS (by assumption) (by omega) | exact isW.gK (by assumption) (by omega) | exact isW.g1 (by assumption) | exact isW.g2 (by assumption) | exact isW.g3 (by assumption) | exact isI.gx (isW.i0 (by assumption)) | exact isI.gc (isW.i0 (by assumption)) | exact isI.gx (isW.i1 (by assumption)) | exact isI.gc (isW.i1 (by assumption)) | exact isI.gx (isW.i2 (by assumption)) | exact isI.gc (isW.i2 (by assumption)) | exact isI.gx (isW.i3 (by assumption)) | exact isI.gc (isW.i3 (by assumption)) | exact isI.gx (isW.i4 (by assumption)) | exact isI.gc (isW.i4 (by assumption)) | exact isI.gx (isW.i5 (by assumption)) | exact isI.gc (isW.i5 (by assumption)) | exact isR.gx (by assumption) | exact isRd.gx (by assumption) | exact isSp.gx (by assumption) | exact isI.gx (isR.i (by assumption)) | exact isI.gx (isRd.i (by assumption)) | exact isI.gc (isRd.i (by assumption)) | exact isI.gx (isSp.i (by assumption)) | exact isW.gx (isR.w (by assumption)) | exact isW.gF (isR.w (by assumption)) | fail "no such object") (by first | exact b01_r | exact bz_r | omega | (constructor <;> omega) | apply_assumption | (apply atF_r; assumption) | fail "no range") (by first | exact b01_r | exact bz_r | omega | (constructor <;> omega) | apply_assumption | (apply atF_r; assumption) | fail "no range") (by first | exact b01_r | exact bz_r | omega | (constructor <;> omega) | apply_assumption | (apply atF_r; assumption) | fail "no range") (by omega) ?_
          rw [e0]
          refine rc_iast (pc := 42) dX1_drop_42 (by assumption) (by first | exact b01_r | exact bz_r | omega | (constructor <;> omega) | apply_assumption | (apply atF_r; assumption) | fail "no range") (by first | exact b01_r | exact bz_r | omega | (constructor <;> omega) | apply_assumption | (apply atF_r; assumption) | fail "no range") (by first | exact b01_r | exact bz_r | omega | (constructor <;> omega) | apply_assumption | (apply atF_r; assumption) | fail "no range") (fun h_42 hI_42 hS_42 => ?_)
          refine rj_iinc (pc := 43) dX1_drop_43 (Nat.le_of_ble_eq_true rfl) rfl ?_
          dsimp only [lsSt, List.set, mLs, mEnt]
          refine rj_iinc (pc := 46) dX1_drop_46 (Nat.le_of_ble_eq_true rfl) rfl ?_
          dsimp only [lsSt, List.set, mLs, mEnt]
          refine r_goto (pc := 49) (tgt := 4) dX1_drop_49 (by decide) ?_
          have y := ih (t + 1) h_42 (by rw [drA, if_neg c_28]; exact hI_42) (by omega)
          rw [← cnt_t (by simp [notB, c_28])] at y
          exact y.mono (fun v h' g => ⟨g.1, g.2.1, hS_42.trans g.2.2⟩)
set_option maxHeartbeats 4000000 in
set_option maxRecDepth 100000 in
theorem ci_drop {G : mG} {l : Launch} (d : Nat) {h : mH} {a n Z : Nat} {f : Nat → Int} (I : isI h a n (Z : Int) f) {x : Int} (hx : InR x) (hn : n ≤ 1000) (hZ : Z ≤ n) (hf : ∀ q, InR (f q)) : RUNM G l (d) mX1_drop [.ref a, .int (J x)] h (fun v h' => v = none ∧ isI h' a n (cnt (notB x f) Z) (drA x f Z) ∧ Same (iBlk a) h h') := by
  refine RUNM.of (by decide +kernel) (Nat.le_of_ble_eq_true rfl) ?_
  refine rj_iconst (pc := 0) dX1_drop_0 ?_
  refine r_istore_n (pc := 1) dX1_drop_1 (Nat.le_of_ble_eq_true rfl) ?_
  dsimp only [lsSt, List.set, mLs, mEnt]
  refine rj_iconst (pc := 2) dX1_drop_2 ?_
  refine r_istore_n (pc := 3) dX1_drop_3 (Nat.le_of_ble_eq_true rfl) ?_
  dsimp only [lsSt, List.set, mLs, mEnt]
  exact L_drop d hx hn hZ hf Z 0 h I (by omega)
end mg_51
section mg_52
/-! ===== the class: a thing, a scope, a task by its number ===== -/
abbrev inW (c : Nat → Int) (k n : Nat) (i : Int) : Prop := 0 ≤ i ∧ i < c k ∧ i < n
def thAt (w : Nat) (c : Nat → Int) (i : Int) : Option Nat := if inW c 0 90 i then some (wT w i.toNat) else none
def scAt (w : Nat) (c : Nat → Int) (i : Int) : Option Nat := if inW c 1 60 i then some (wS w i.toNat) else none
def tkAt (w : Nat) (c : Nat → Int) (i : Int) : Option Nat := if inW c 2 10 i then some (wK w i.toNat) else none
section AT
variable {w : Nat} {c : Nat → Int} {i : Int} {v : Option Value}
theorem thAt_p (h : inW c 0 90 i) : thAt w c i = some (wT w i.toNat) := by unfold thAt; rw [if_pos h]
theorem thAt_n (h : ¬ inW c 0 90 i) : thAt w c i = none := by unfold thAt; rw [if_neg h]
theorem thAt_P (h : inW c 0 90 i) (q : v = some (va_rf (thAt w c i))) : v = some (.ref (wT w i.toNat)) := by rw [q, thAt_p h]; rfl
theorem thAt_N (h : ¬ inW c 0 90 i) (q : v = some (va_rf (thAt w c i))) : v = some .null := by rw [q, thAt_n h]; rfl
theorem scAt_p (h : inW c 1 60 i) : scAt w c i = some (wS w i.toNat) := by unfold scAt; rw [if_pos h]
theorem scAt_n (h : ¬ inW c 1 60 i) : scAt w c i = none := by unfold scAt; rw [if_neg h]
theorem scAt_P (h : inW c 1 60 i) (q : v = some (va_rf (scAt w c i))) : v = some (.ref (wS w i.toNat)) := by rw [q, scAt_p h]; rfl
theorem scAt_N (h : ¬ inW c 1 60 i) (q : v = some (va_rf (scAt w c i))) : v = some .null := by rw [q, scAt_n h]; rfl
theorem tkAt_p (h : inW c 2 10 i) : tkAt w c i = some (wK w i.toNat) := by unfold tkAt; rw [if_pos h]
theorem tkAt_n (h : ¬ inW c 2 10 i) : tkAt w c i = none := by unfold tkAt; rw [if_neg h]
theorem tkAt_P (h : inW c 2 10 i) (q : v = some (va_rf (tkAt w c i))) : v = some (.ref (wK w i.toNat)) := by rw [q, tkAt_p h]; rfl
theorem tkAt_N (h : ¬ inW c 2 10 i) (q : v = some (va_rf (tkAt w c i))) : v = some .null := by rw [q, tkAt_n h]; rfl
end AT
set_option maxHeartbeats 4000000 in
set_option maxRecDepth 100000 in
theorem cw_thingAt {G : mG} {l : Launch} (d : Nat) {h : mH} {w : Nat} {c : Nat → Int} {C : Nat → Nat → Int} {nm : Nat → Int64} {g : Nat → Option Nat} (hW : isW h w c C nm g) (hc : ∀ q, InR (c q)) {i : Int} (hi : InR i) : RUNM G l (d) mX9_thingAt [.ref w, .int (J i)] h (fun v h' => v = some (va_rf (thAt w c i)) ∧ h' = h) := by
  refine RUNM.of (by decide +kernel) (Nat.le_of_ble_eq_true rfl) ?_
  have r0 := hc 0
  refine r_iload_n (pc := 0) dX9_thingAt_0 rfl ?_
  refine rj_if_lt (pc := 1) (tgt := 21) dX9_thingAt_1 (by decide) (by first | exact b01_r | exact bz_r | omega | (constructor <;> omega) | apply_assumption | (apply atF_r; assumption) | fail "no range") (fun c_1 => ?_) (fun c_1 => ?_)
  · refine r_null (pc := 21) dX9_thingAt_21 ?_
    refine r_goto (pc := 22) (tgt := 31) dX9_thingAt_22 (by decide) ?_
    refine r_areturn (pc := 31) _ dX9_thingAt_31 rfl (Or.inl ⟨_, rfl⟩) (by first | rfl | exact isRefV_rf _) ?_
    first
    | exact ⟨by rw [thAt_p (by omega)]; rfl, rfl⟩
    | exact ⟨by rw [thAt_n (by omega)]; rfl, rfl⟩
  · refine r_iload_n (pc := 4) dX9_thingAt_4 rfl ?_
    refine r_aload_n (pc := 5) dX9_thingAt_5 rfl (by first | rfl | exact isRefV_rf _) ?_
    refine r_getf (pc := 6) dX9_thingAt_6 fX9_71 (by first | assumption | exact isI.gx (by assumption) | exact isI.gc (by assumption) | exact isW.gx (by assumption) | exact isW.gF (by assumption) | exact isW.gT (by assumption) (by omega) | exact isW.gS (by assumption) (by omega) | exact isW.gK (by assumption) (by omega) | exact isW.g1 (by assumption) | exact isW.g2 (by assumption) | exact isW.g3 (by assumption) | exact isI.gx (isW.i0 (by assumption)) | exact isI.gc (isW.i0 (by assumption)) | exact isI.gx (isW.i1 (by assumption)) | exact isI.gc (isW.i1 (by assumption)) | exact isI.gx (isW.i2 (by assumption)) | exact isI.gc (isW.i2 (by assumption)) | exact isI.gx (isW.i3 (by assumption)) | exact isI.gc (isW.i3 (by assumption)) | exact isI.gx (isW.i4 (by assumption)) | exact isI.gc (isW.i4 (by assumption)) | exact isI.gx (isW.i5 (by assumption)) | exact isI.gc (isW.i5 (by assumption)) | exact isR.gx (by assumption) | exact isRd.gx (by assumption) | exact isSp.gx (by assumption) | exact isI.gx (isR.i (by assumption)) | exact isI.gx (isRd.i (by assumption)) | exact isI.gc (isRd.i (by assumption)) | exact isI.gx (isSp.i (by assumption)) | exact isW.gx (isR.w (by assumption)) | exact isW.gF (isR.w (by assumption)) | fail "no such object") (by rfl) ?_
    refine rj_icmp_ge (pc := 9) (tgt := 21) dX9_thingAt_9 (by decide) (by first | exact b01_r | exact bz_r | omega | (constructor <;> omega) | apply_assumption | (apply atF_r; assumption) | fail "no range") (by first | exact b01_r | exact bz_r | omega | (constructor <;> omega) | apply_assumption | (apply atF_r; assumption) | fail "no range") (fun c_9 => ?_) (fun c_9 => ?_)
    · refine r_null (pc := 21) dX9_thingAt_21 ?_
      refine r_goto (pc := 22) (tgt := 31) dX9_thingAt_22 (by decide) ?_
      refine r_areturn (pc := 31) _ dX9_thingAt_31 rfl (Or.inl ⟨_, rfl⟩) (by first | rfl | exact isRefV_rf _) ?_
      first
      | exact ⟨by rw [thAt_p (by omega)]; rfl, rfl⟩
      | exact ⟨by rw [thAt_n (by omega)]; rfl, rfl⟩
    · refine r_iload_n (pc := 12) dX9_thingAt_12 rfl ?_
      refine r_aload_n (pc := 13) dX9_thingAt_13 rfl (by first | rfl | exact isRefV_rf _) ?_
      refine r_getf (pc := 14) dX9_thingAt_14 fX9_11 (by first | assumption | exact isI.gx (by assumption) | exact isI.gc (by assumption) | exact isW.gx (by assumption) | exact isW.gF (by assumption) | exact isW.gT (by assumption) (by omega) | exact isW.gS (by assumption) (by omega) | exact isW.gK (by assumption) (by omega) | exact isW.g1 (by assumption) | exact isW.g2 (by assumption) | exact isW.g3 (by assumption) | exact isI.gx (isW.i0 (by assumption)) | exact isI.gc (isW.i0 (by assumption)) | exact isI.gx (isW.i1 (by assumption)) | exact isI.gc (isW.i1 (by assumption)) | exact isI.gx (isW.i2 (by assumption)) | exact isI.gc (isW.i2 (by assumption)) | exact isI.gx (isW.i3 (by assumption)) | exact isI.gc (isW.i3 (by assumption)) | exact isI.gx (isW.i4 (by assumption)) | exact isI.gc (isW.i4 (by assumption)) | exact isI.gx (isW.i5 (by assumption)) | exact isI.gc (isW.i5 (by assumption)) | exact isR.gx (by assumption) | exact isRd.gx (by assumption) | exact isSp.gx (by assumption) | exact isI.gx (isR.i (by assumption)) | exact isI.gx (isRd.i (by assumption)) | exact isI.gc (isRd.i (by assumption)) | exact isI.gx (isSp.i (by assumption)) | exact isW.gx (isR.w (by assumption)) | exact isW.gF (isR.w (by assumption)) | fail "no such object") (by rfl) ?_
      first | refine rj_alen (pc := 17) dX9_thingAt_17 (by first | assumption | exact isI.gx (by assumption) | exact isI.gc (by assumption) | exact isW.gx (by assumption) | exact isW.gF (by assumption) | exact isW.gT (by assumption) (by omega) | exact isW.gS (by assumption) (by omega) | exact isW.gK (by assumption) (by omega) | exact isW.g1 (by assumption) | exact isW.g2 (by assumption) | exact isW.g3 (by assumption) | exact isI.gx (isW.i0 (by assumption)) | exact isI.gc (isW.i0 (by assumption)) | exact isI.gx (isW.i1 (by assumption)) | exact isI.gc (isW.i1 (by assumption)) | exact isI.gx (isW.i2 (by assumption)) | exact isI.gc (isW.i2 (by assumption)) | exact isI.gx (isW.i3 (by assumption)) | exact isI.gc (isW.i3 (by assumption)) | exact isI.gx (isW.i4 (by assumption)) | exact isI.gc (isW.i4 (by assumption)) | exact isI.gx (isW.i5 (by assumption)) | exact isI.gc (isW.i5 (by assumption)) | exact isR.gx (by assumption) | exact isRd.gx (by assumption) | exact isSp.gx (by assumption) | exact isI.gx (isR.i (by assumption)) | exact isI.gx (isRd.i (by assumption)) | exact isI.gc (isRd.i (by assumption)) | exact isI.gx (isSp.i (by assumption)) | exact isW.gx (isR.w (by assumption)) | exact isW.gF (isR.w (by assumption)) | fail "no such object") ?_ | refine rj_alenR (pc := 17) dX9_thingAt_17 (by first | assumption | exact isI.gx (by assumption) | exact isI.gc (by assumption) | exact isW.gx (by assumption) | exact isW.gF (by assumption) | exact isW.gT (by assumption) (by omega) | exact isW.gS (by assumption) (by omega) | exact isW.gK (by assumption) (by omega) | exact isW.g1 (by assumption) | exact isW.g2 (by assumption) | exact isW.g3 (by assumption) | exact isI.gx (isW.i0 (by assumption)) | exact isI.gc (isW.i0 (by assumption)) | exact isI.gx (isW.i1 (by assumption)) | exact isI.gc (isW.i1 (by assumption)) | exact isI.gx (isW.i2 (by assumption)) | exact isI.gc (isW.i2 (by assumption)) | exact isI.gx (isW.i3 (by assumption)) | exact isI.gc (isW.i3 (by assumption)) | exact isI.gx (isW.i4 (by assumption)) | exact isI.gc (isW.i4 (by assumption)) | exact isI.gx (isW.i5 (by assumption)) | exact isI.gc (isW.i5 (by assumption)) | exact isR.gx (by assumption) | exact isRd.gx (by assumption) | exact isSp.gx (by assumption) | exact isI.gx (isR.i (by assumption)) | exact isI.gx (isRd.i (by assumption)) | exact isI.gc (isRd.i (by assumption)) | exact isI.gx (isSp.i (by assumption)) | exact isW.gx (isR.w (by assumption)) | exact isW.gF (isR.w (by assumption)) | fail "no such object") ?_
      refine rj_icmp_lt (pc := 18) (tgt := 25) dX9_thingAt_18 (by decide) (by first | exact b01_r | exact bz_r | omega | (constructor <;> omega) | apply_assumption | (apply atF_r; assumption) | fail "no range") (by first | exact b01_r | exact bz_r | omega | (constructor <;> omega) | apply_assumption | (apply atF_r; assumption) | fail "no range") (fun c_18 => ?_) (fun c_18 => ?_)
      · refine r_aload_n (pc := 25) dX9_thingAt_25 rfl (by first | rfl | exact isRefV_rf _) ?_
        refine r_getf (pc := 26) dX9_thingAt_26 fX9_11 (by first | assumption | exact isI.gx (by assumption) | exact isI.gc (by assumption) | exact isW.gx (by assumption) | exact isW.gF (by assumption) | exact isW.gT (by assumption) (by omega) | exact isW.gS (by assumption) (by omega) | exact isW.gK (by assumption) (by omega) | exact isW.g1 (by assumption) | exact isW.g2 (by assumption) | exact isW.g3 (by assumption) | exact isI.gx (isW.i0 (by assumption)) | exact isI.gc (isW.i0 (by assumption)) | exact isI.gx (isW.i1 (by assumption)) | exact isI.gc (isW.i1 (by assumption)) | exact isI.gx (isW.i2 (by assumption)) | exact isI.gc (isW.i2 (by assumption)) | exact isI.gx (isW.i3 (by assumption)) | exact isI.gc (isW.i3 (by assumption)) | exact isI.gx (isW.i4 (by assumption)) | exact isI.gc (isW.i4 (by assumption)) | exact isI.gx (isW.i5 (by assumption)) | exact isI.gc (isW.i5 (by assumption)) | exact isR.gx (by assumption) | exact isRd.gx (by assumption) | exact isSp.gx (by assumption) | exact isI.gx (isR.i (by assumption)) | exact isI.gx (isRd.i (by assumption)) | exact isI.gc (isRd.i (by assumption)) | exact isI.gx (isSp.i (by assumption)) | exact isW.gx (isR.w (by assumption)) | exact isW.gF (isR.w (by assumption)) | fail "no such object") (by rfl) ?_
        refine r_iload_n (pc := 29) dX9_thingAt_29 rfl ?_
        first | refine rc_aaldT (pc := 30) dX9_thingAt_30 (by assumption) (by first | exact b01_r | exact bz_r | omega | (constructor <;> omega) | apply_assumption | (apply atF_r; assumption) | fail "no range") (by first | exact b01_r | exact bz_r | omega | (constructor <;> omega) | apply_assumption | (apply atF_r; assumption) | fail "no range") (by first | exact b01_r | exact bz_r | omega | (constructor <;> omega) | apply_assumption | (apply atF_r; assumption) | fail "no range") ?_ | refine rc_aaldS (pc := 30) dX9_thingAt_30 (by assumption) (by first | exact b01_r | exact bz_r | omega | (constructor <;> omega) | apply_assumption | (apply atF_r; assumption) | fail "no range") (by first | exact b01_r | exact bz_r | omega | (constructor <;> omega) | apply_assumption | (apply atF_r; assumption) | fail "no range") (by first | exact b01_r | exact bz_r | omega | (constructor <;> omega) | apply_assumption | (apply atF_r; assumption) | fail "no range") ?_ | refine rc_aaldK (pc := 30) dX9_thingAt_30 (by assumption) (by first | exact b01_r | exact bz_r | omega | (constructor <;> omega) | apply_assumption | (apply atF_r; assumption) | fail "no range") (by first | exact b01_r | exact bz_r | omega | (constructor <;> omega) | apply_assumption | (apply atF_r; assumption) | fail "no range") (by first | exact b01_r | exact bz_r | omega | (constructor <;> omega) | apply_assumption | (apply atF_r; assumption) | fail "no range") ?_
        refine r_areturn (pc := 31) _ dX9_thingAt_31 rfl (Or.inl ⟨_, rfl⟩) (by first | rfl | exact isRefV_rf _) ?_
        first
        | exact ⟨by rw [thAt_p (by omega)]; rfl, rfl⟩
        | exact ⟨by rw [thAt_n (by omega)]; rfl, rfl⟩
      · refine r_null (pc := 21) dX9_thingAt_21 ?_
        refine r_goto (pc := 22) (tgt := 31) dX9_thingAt_22 (by decide) ?_
        refine r_areturn (pc := 31) _ dX9_thingAt_31 rfl (Or.inl ⟨_, rfl⟩) (by first | rfl | exact isRefV_rf _) ?_
        first
        | exact ⟨by rw [thAt_p (by omega)]; rfl, rfl⟩
        | exact ⟨by rw [thAt_n (by omega)]; rfl, rfl⟩
set_option maxHeartbeats 4000000 in
set_option maxRecDepth 100000 in
theorem cw_scopeAt {G : mG} {l : Launch} (d : Nat) {h : mH} {w : Nat} {c : Nat → Int} {C : Nat → Nat → Int} {nm : Nat → Int64} {g : Nat → Option Nat} (hW : isW h w c C nm g) (hc : ∀ q, InR (c q)) {i : Int} (hi : InR i) : RUNM G l (d) mX9_scopeAt [.ref w, .int (J i)] h (fun v h' => v = some (va_rf (scAt w c i)) ∧ h' = h) := by
  refine RUNM.of (by decide +kernel) (Nat.le_of_ble_eq_true rfl) ?_
  have r1 := hc 1
  refine r_iload_n (pc := 0) dX9_scopeAt_0 rfl ?_
  refine rj_if_lt (pc := 1) (tgt := 21) dX9_scopeAt_1 (by decide) (by first | exact b01_r | exact bz_r | omega | (constructor <;> omega) | apply_assumption | (apply atF_r; assumption) | fail "no range") (fun c_1 => ?_) (fun c_1 => ?_)
  · refine r_null (pc := 21) dX9_scopeAt_21 ?_
    refine r_goto (pc := 22) (tgt := 31) dX9_scopeAt_22 (by decide) ?_
    refine r_areturn (pc := 31) _ dX9_scopeAt_31 rfl (Or.inl ⟨_, rfl⟩) (by first | rfl | exact isRefV_rf _) ?_
    first
    | exact ⟨by rw [scAt_p (by omega)]; rfl, rfl⟩
    | exact ⟨by rw [scAt_n (by omega)]; rfl, rfl⟩
  · refine r_iload_n (pc := 4) dX9_scopeAt_4 rfl ?_
    refine r_aload_n (pc := 5) dX9_scopeAt_5 rfl (by first | rfl | exact isRefV_rf _) ?_
    refine r_getf (pc := 6) dX9_scopeAt_6 fX9_57 (by first | assumption | exact isI.gx (by assumption) | exact isI.gc (by assumption) | exact isW.gx (by assumption) | exact isW.gF (by assumption) | exact isW.gT (by assumption) (by omega) | exact isW.gS (by assumption) (by omega) | exact isW.gK (by assumption) (by omega) | exact isW.g1 (by assumption) | exact isW.g2 (by assumption) | exact isW.g3 (by assumption) | exact isI.gx (isW.i0 (by assumption)) | exact isI.gc (isW.i0 (by assumption)) | exact isI.gx (isW.i1 (by assumption)) | exact isI.gc (isW.i1 (by assumption)) | exact isI.gx (isW.i2 (by assumption)) | exact isI.gc (isW.i2 (by assumption)) | exact isI.gx (isW.i3 (by assumption)) | exact isI.gc (isW.i3 (by assumption)) | exact isI.gx (isW.i4 (by assumption)) | exact isI.gc (isW.i4 (by assumption)) | exact isI.gx (isW.i5 (by assumption)) | exact isI.gc (isW.i5 (by assumption)) | exact isR.gx (by assumption) | exact isRd.gx (by assumption) | exact isSp.gx (by assumption) | exact isI.gx (isR.i (by assumption)) | exact isI.gx (isRd.i (by assumption)) | exact isI.gc (isRd.i (by assumption)) | exact isI.gx (isSp.i (by assumption)) | exact isW.gx (isR.w (by assumption)) | exact isW.gF (isR.w (by assumption)) | fail "no such object") (by rfl) ?_
    refine rj_icmp_ge (pc := 9) (tgt := 21) dX9_scopeAt_9 (by decide) (by first | exact b01_r | exact bz_r | omega | (constructor <;> omega) | apply_assumption | (apply atF_r; assumption) | fail "no range") (by first | exact b01_r | exact bz_r | omega | (constructor <;> omega) | apply_assumption | (apply atF_r; assumption) | fail "no range") (fun c_9 => ?_) (fun c_9 => ?_)
    · refine r_null (pc := 21) dX9_scopeAt_21 ?_
      refine r_goto (pc := 22) (tgt := 31) dX9_scopeAt_22 (by decide) ?_
      refine r_areturn (pc := 31) _ dX9_scopeAt_31 rfl (Or.inl ⟨_, rfl⟩) (by first | rfl | exact isRefV_rf _) ?_
      first
      | exact ⟨by rw [scAt_p (by omega)]; rfl, rfl⟩
      | exact ⟨by rw [scAt_n (by omega)]; rfl, rfl⟩
    · refine r_iload_n (pc := 12) dX9_scopeAt_12 rfl ?_
      refine r_aload_n (pc := 13) dX9_scopeAt_13 rfl (by first | rfl | exact isRefV_rf _) ?_
      refine r_getf (pc := 14) dX9_scopeAt_14 fX9_19 (by first | assumption | exact isI.gx (by assumption) | exact isI.gc (by assumption) | exact isW.gx (by assumption) | exact isW.gF (by assumption) | exact isW.gT (by assumption) (by omega) | exact isW.gS (by assumption) (by omega) | exact isW.gK (by assumption) (by omega) | exact isW.g1 (by assumption) | exact isW.g2 (by assumption) | exact isW.g3 (by assumption) | exact isI.gx (isW.i0 (by assumption)) | exact isI.gc (isW.i0 (by assumption)) | exact isI.gx (isW.i1 (by assumption)) | exact isI.gc (isW.i1 (by assumption)) | exact isI.gx (isW.i2 (by assumption)) | exact isI.gc (isW.i2 (by assumption)) | exact isI.gx (isW.i3 (by assumption)) | exact isI.gc (isW.i3 (by assumption)) | exact isI.gx (isW.i4 (by assumption)) | exact isI.gc (isW.i4 (by assumption)) | exact isI.gx (isW.i5 (by assumption)) | exact isI.gc (isW.i5 (by assumption)) | exact isR.gx (by assumption) | exact isRd.gx (by assumption) | exact isSp.gx (by assumption) | exact isI.gx (isR.i (by assumption)) | exact isI.gx (isRd.i (by assumption)) | exact isI.gc (isRd.i (by assumption)) | exact isI.gx (isSp.i (by assumption)) | exact isW.gx (isR.w (by assumption)) | exact isW.gF (isR.w (by assumption)) | fail "no such object") (by rfl) ?_
      first | refine rj_alen (pc := 17) dX9_scopeAt_17 (by first | assumption | exact isI.gx (by assumption) | exact isI.gc (by assumption) | exact isW.gx (by assumption) | exact isW.gF (by assumption) | exact isW.gT (by assumption) (by omega) | exact isW.gS (by assumption) (by omega) | exact isW.gK (by assumption) (by omega) | exact isW.g1 (by assumption) | exact isW.g2 (by assumption) | exact isW.g3 (by assumption) | exact isI.gx (isW.i0 (by assumption)) | exact isI.gc (isW.i0 (by assumption)) | exact isI.gx (isW.i1 (by assumption)) | exact isI.gc (isW.i1 (by assumption)) | exact isI.gx (isW.i2 (by assumption)) | exact isI.gc (isW.i2 (by assumption)) | exact isI.gx (isW.i3 (by assumption)) | exact isI.gc (isW.i3 (by assumption)) | exact isI.gx (isW.i4 (by assumption)) | exact isI.gc (isW.i4 (by assumption)) | exact isI.gx (isW.i5 (by assumption)) | exact isI.gc (isW.i5 (by assumption)) | exact isR.gx (by assumption) | exact isRd.gx (by assumption) | exact isSp.gx (by assumption) | exact isI.gx (isR.i (by assumption)) | exact isI.gx (isRd.i (by assumption)) | exact isI.gc (isRd.i (by assumption)) | exact isI.gx (isSp.i (by assumption)) | exact isW.gx (isR.w (by assumption)) | exact isW.gF (isR.w (by assumption)) | fail "no such object") ?_ | refine rj_alenR (pc := 17) dX9_scopeAt_17 (by first | assumption | exact isI.gx (by assumption) | exact isI.gc (by assumption) | exact isW.gx (by assumption) | exact isW.gF (by assumption) | exact isW.gT (by assumption) (by omega) | exact isW.gS (by assumption) (by omega) | exact isW.gK (by assumption) (by omega) | exact isW.g1 (by assumption) | exact isW.g2 (by assumption) | exact isW.g3 (by assumption) | exact isI.gx (isW.i0 (by assumption)) | exact isI.gc (isW.i0 (by assumption)) | exact isI.gx (isW.i1 (by assumption)) | exact isI.gc (isW.i1 (by assumption)) | exact isI.gx (isW.i2 (by assumption)) | exact isI.gc (isW.i2 (by assumption)) | exact isI.gx (isW.i3 (by assumption)) | exact isI.gc (isW.i3 (by assumption)) | exact isI.gx (isW.i4 (by assumption)) | exact isI.gc (isW.i4 (by assumption)) | exact isI.gx (isW.i5 (by assumption)) | exact isI.gc (isW.i5 (by assumption)) | exact isR.gx (by assumption) | exact isRd.gx (by assumption) | exact isSp.gx (by assumption) | exact isI.gx (isR.i (by assumption)) | exact isI.gx (isRd.i (by assumption)) | exact isI.gc (isRd.i (by assumption)) | exact isI.gx (isSp.i (by assumption)) | exact isW.gx (isR.w (by assumption)) | exact isW.gF (isR.w (by assumption)) | fail "no such object") ?_
      refine rj_icmp_lt (pc := 18) (tgt := 25) dX9_scopeAt_18 (by decide) (by first | exact b01_r | exact bz_r | omega | (constructor <;> omega) | apply_assumption | (apply atF_r; assumption) | fail "no range") (by first | exact b01_r | exact bz_r | omega | (constructor <;> omega) | apply_assumption | (apply atF_r; assumption) | fail "no range") (fun c_18 => ?_) (fun c_18 => ?_)
      · refine r_aload_n (pc := 25) dX9_scopeAt_25 rfl (by first | rfl | exact isRefV_rf _) ?_
        refine r_getf (pc := 26) dX9_scopeAt_26 fX9_19 (by first | assumption | exact isI.gx (by assumption) | exact isI.gc (by assumption) | exact isW.gx (by assumption) | exact isW.gF (by assumption) | exact isW.gT (by assumption) (by omega) | exact isW.gS (by assumption) (by omega) | exact isW.gK (by assumption) (by omega) | exact isW.g1 (by assumption) | exact isW.g2 (by assumption) | exact isW.g3 (by assumption) | exact isI.gx (isW.i0 (by assumption)) | exact isI.gc (isW.i0 (by assumption)) | exact isI.gx (isW.i1 (by assumption)) | exact isI.gc (isW.i1 (by assumption)) | exact isI.gx (isW.i2 (by assumption)) | exact isI.gc (isW.i2 (by assumption)) | exact isI.gx (isW.i3 (by assumption)) | exact isI.gc (isW.i3 (by assumption)) | exact isI.gx (isW.i4 (by assumption)) | exact isI.gc (isW.i4 (by assumption)) | exact isI.gx (isW.i5 (by assumption)) | exact isI.gc (isW.i5 (by assumption)) | exact isR.gx (by assumption) | exact isRd.gx (by assumption) | exact isSp.gx (by assumption) | exact isI.gx (isR.i (by assumption)) | exact isI.gx (isRd.i (by assumption)) | exact isI.gc (isRd.i (by assumption)) | exact isI.gx (isSp.i (by assumption)) | exact isW.gx (isR.w (by assumption)) | exact isW.gF (isR.w (by assumption)) | fail "no such object") (by rfl) ?_
        refine r_iload_n (pc := 29) dX9_scopeAt_29 rfl ?_
        first | refine rc_aaldT (pc := 30) dX9_scopeAt_30 (by assumption) (by first | exact b01_r | exact bz_r | omega | (constructor <;> omega) | apply_assumption | (apply atF_r; assumption) | fail "no range") (by first | exact b01_r | exact bz_r | omega | (constructor <;> omega) | apply_assumption | (apply atF_r; assumption) | fail "no range") (by first | exact b01_r | exact bz_r | omega | (constructor <;> omega) | apply_assumption | (apply atF_r; assumption) | fail "no range") ?_ | refine rc_aaldS (pc := 30) dX9_scopeAt_30 (by assumption) (by first | exact b01_r | exact bz_r | omega | (constructor <;> omega) | apply_assumption | (apply atF_r; assumption) | fail "no range") (by first | exact b01_r | exact bz_r | omega | (constructor <;> omega) | apply_assumption | (apply atF_r; assumption) | fail "no range") (by first | exact b01_r | exact bz_r | omega | (constructor <;> omega) | apply_assumption | (apply atF_r; assumption) | fail "no range") ?_ | refine rc_aaldK (pc := 30) dX9_scopeAt_30 (by assumption) (by first | exact b01_r | exact bz_r | omega | (constructor <;> omega) | apply_assumption | (apply atF_r; assumption) | fail "no range") (by first | exact b01_r | exact bz_r | omega | (constructor <;> omega) | apply_assumption | (apply atF_r; assumption) | fail "no range") (by first | exact b01_r | exact bz_r | omega | (constructor <;> omega) | apply_assumption | (apply atF_r; assumption) | fail "no range") ?_
        refine r_areturn (pc := 31) _ dX9_scopeAt_31 rfl (Or.inl ⟨_, rfl⟩) (by first | rfl | exact isRefV_rf _) ?_
        first
        | exact ⟨by rw [scAt_p (by omega)]; rfl, rfl⟩
        | exact ⟨by rw [scAt_n (by omega)]; rfl, rfl⟩
      · refine r_null (pc := 21) dX9_scopeAt_21 ?_
        refine r_goto (pc := 22) (tgt := 31) dX9_scopeAt_22 (by decide) ?_
        refine r_areturn (pc := 31) _ dX9_scopeAt_31 rfl (Or.inl ⟨_, rfl⟩) (by first | rfl | exact isRefV_rf _) ?_
        first
        | exact ⟨by rw [scAt_p (by omega)]; rfl, rfl⟩
        | exact ⟨by rw [scAt_n (by omega)]; rfl, rfl⟩
set_option maxHeartbeats 4000000 in
set_option maxRecDepth 100000 in
theorem cw_taskAt {G : mG} {l : Launch} (d : Nat) {h : mH} {w : Nat} {c : Nat → Int} {C : Nat → Nat → Int} {nm : Nat → Int64} {g : Nat → Option Nat} (hW : isW h w c C nm g) (hc : ∀ q, InR (c q)) {i : Int} (hi : InR i) : RUNM G l (d) mX9_taskAt [.ref w, .int (J i)] h (fun v h' => v = some (va_rf (tkAt w c i)) ∧ h' = h) := by
  refine RUNM.of (by decide +kernel) (Nat.le_of_ble_eq_true rfl) ?_
  have r2 := hc 2
  refine r_iload_n (pc := 0) dX9_taskAt_0 rfl ?_
  refine rj_if_lt (pc := 1) (tgt := 21) dX9_taskAt_1 (by decide) (by first | exact b01_r | exact bz_r | omega | (constructor <;> omega) | apply_assumption | (apply atF_r; assumption) | fail "no range") (fun c_1 => ?_) (fun c_1 => ?_)
  · refine r_null (pc := 21) dX9_taskAt_21 ?_
    refine r_goto (pc := 22) (tgt := 31) dX9_taskAt_22 (by decide) ?_
    refine r_areturn (pc := 31) _ dX9_taskAt_31 rfl (Or.inl ⟨_, rfl⟩) (by first | rfl | exact isRefV_rf _) ?_
    first
    | exact ⟨by rw [tkAt_p (by omega)]; rfl, rfl⟩
    | exact ⟨by rw [tkAt_n (by omega)]; rfl, rfl⟩
  · refine r_iload_n (pc := 4) dX9_taskAt_4 rfl ?_
    refine r_aload_n (pc := 5) dX9_taskAt_5 rfl (by first | rfl | exact isRefV_rf _) ?_
    refine r_getf (pc := 6) dX9_taskAt_6 fX9_81 (by first | assumption | exact isI.gx (by assumption) | exact isI.gc (by assumption) | exact isW.gx (by assumption) | exact isW.gF (by assumption) | exact isW.gT (by assumption) (by omega) | exact isW.gS (by assumption) (by omega) | exact isW.gK (by assumption) (by omega) | exact isW.g1 (by assumption) | exact isW.g2 (by assumption) | exact isW.g3 (by assumption) | exact isI.gx (isW.i0 (by assumption)) | exact isI.gc (isW.i0 (by assumption)) | exact isI.gx (isW.i1 (by assumption)) | exact isI.gc (isW.i1 (by assumption)) | exact isI.gx (isW.i2 (by assumption)) | exact isI.gc (isW.i2 (by assumption)) | exact isI.gx (isW.i3 (by assumption)) | exact isI.gc (isW.i3 (by assumption)) | exact isI.gx (isW.i4 (by assumption)) | exact isI.gc (isW.i4 (by assumption)) | exact isI.gx (isW.i5 (by assumption)) | exact isI.gc (isW.i5 (by assumption)) | exact isR.gx (by assumption) | exact isRd.gx (by assumption) | exact isSp.gx (by assumption) | exact isI.gx (isR.i (by assumption)) | exact isI.gx (isRd.i (by assumption)) | exact isI.gc (isRd.i (by assumption)) | exact isI.gx (isSp.i (by assumption)) | exact isW.gx (isR.w (by assumption)) | exact isW.gF (isR.w (by assumption)) | fail "no such object") (by rfl) ?_
    refine rj_icmp_ge (pc := 9) (tgt := 21) dX9_taskAt_9 (by decide) (by first | exact b01_r | exact bz_r | omega | (constructor <;> omega) | apply_assumption | (apply atF_r; assumption) | fail "no range") (by first | exact b01_r | exact bz_r | omega | (constructor <;> omega) | apply_assumption | (apply atF_r; assumption) | fail "no range") (fun c_9 => ?_) (fun c_9 => ?_)
    · refine r_null (pc := 21) dX9_taskAt_21 ?_
      refine r_goto (pc := 22) (tgt := 31) dX9_taskAt_22 (by decide) ?_
      refine r_areturn (pc := 31) _ dX9_taskAt_31 rfl (Or.inl ⟨_, rfl⟩) (by first | rfl | exact isRefV_rf _) ?_
      first
      | exact ⟨by rw [tkAt_p (by omega)]; rfl, rfl⟩
      | exact ⟨by rw [tkAt_n (by omega)]; rfl, rfl⟩
    · refine r_iload_n (pc := 12) dX9_taskAt_12 rfl ?_
      refine r_aload_n (pc := 13) dX9_taskAt_13 rfl (by first | rfl | exact isRefV_rf _) ?_
      refine r_getf (pc := 14) dX9_taskAt_14 fX9_25 (by first | assumption | exact isI.gx (by assumption) | exact isI.gc (by assumption) | exact isW.gx (by assumption) | exact isW.gF (by assumption) | exact isW.gT (by assumption) (by omega) | exact isW.gS (by assumption) (by omega) | exact isW.gK (by assumption) (by omega) | exact isW.g1 (by assumption) | exact isW.g2 (by assumption) | exact isW.g3 (by assumption) | exact isI.gx (isW.i0 (by assumption)) | exact isI.gc (isW.i0 (by assumption)) | exact isI.gx (isW.i1 (by assumption)) | exact isI.gc (isW.i1 (by assumption)) | exact isI.gx (isW.i2 (by assumption)) | exact isI.gc (isW.i2 (by assumption)) | exact isI.gx (isW.i3 (by assumption)) | exact isI.gc (isW.i3 (by assumption)) | exact isI.gx (isW.i4 (by assumption)) | exact isI.gc (isW.i4 (by assumption)) | exact isI.gx (isW.i5 (by assumption)) | exact isI.gc (isW.i5 (by assumption)) | exact isR.gx (by assumption) | exact isRd.gx (by assumption) | exact isSp.gx (by assumption) | exact isI.gx (isR.i (by assumption)) | exact isI.gx (isRd.i (by assumption)) | exact isI.gc (isRd.i (by assumption)) | exact isI.gx (isSp.i (by assumption)) | exact isW.gx (isR.w (by assumption)) | exact isW.gF (isR.w (by assumption)) | fail "no such object") (by rfl) ?_
      first | refine rj_alen (pc := 17) dX9_taskAt_17 (by first | assumption | exact isI.gx (by assumption) | exact isI.gc (by assumption) | exact isW.gx (by assumption) | exact isW.gF (by assumption) | exact isW.gT (by assumption) (by omega) | exact isW.gS (by assumption) (by omega) | exact isW.gK (by assumption) (by omega) | exact isW.g1 (by assumption) | exact isW.g2 (by assumption) | exact isW.g3 (by assumption) | exact isI.gx (isW.i0 (by assumption)) | exact isI.gc (isW.i0 (by assumption)) | exact isI.gx (isW.i1 (by assumption)) | exact isI.gc (isW.i1 (by assumption)) | exact isI.gx (isW.i2 (by assumption)) | exact isI.gc (isW.i2 (by assumption)) | exact isI.gx (isW.i3 (by assumption)) | exact isI.gc (isW.i3 (by assumption)) | exact isI.gx (isW.i4 (by assumption)) | exact isI.gc (isW.i4 (by assumption)) | exact isI.gx (isW.i5 (by assumption)) | exact isI.gc (isW.i5 (by assumption)) | exact isR.gx (by assumption) | exact isRd.gx (by assumption) | exact isSp.gx (by assumption) | exact isI.gx (isR.i (by assumption)) | exact isI.gx (isRd.i (by assumption)) | exact isI.gc (isRd.i (by assumption)) | exact isI.gx (isSp.i (by assumption)) | exact isW.gx (isR.w (by assumption)) | exact isW.gF (isR.w (by assumption)) | fail "no such object") ?_ | refine rj_alenR (pc := 17) dX9_taskAt_17 (by first | assumption | exact isI.gx (by assumption) | exact isI.gc (by assumption) | exact isW.gx (by assumption) | exact isW.gF (by assumption) | exact isW.gT (by assumption) (by omega) | exact isW.gS (by assumption) (by omega) | exact isW.gK (by assumption) (by omega) | exact isW.g1 (by assumption) | exact isW.g2 (by assumption) | exact isW.g3 (by assumption) | exact isI.gx (isW.i0 (by assumption)) | exact isI.gc (isW.i0 (by assumption)) | exact isI.gx (isW.i1 (by assumption)) | exact isI.gc (isW.i1 (by assumption)) | exact isI.gx (isW.i2 (by assumption)) | exact isI.gc (isW.i2 (by assumption)) | exact isI.gx (isW.i3 (by assumption)) | exact isI.gc (isW.i3 (by assumption)) | exact isI.gx (isW.i4 (by assumption)) | exact isI.gc (isW.i4 (by assumption)) | exact isI.gx (isW.i5 (by assumption)) | exact isI.gc (isW.i5 (by assumption)) | exact isR.gx (by assumption) | exact isRd.gx (by assumption) | exact isSp.gx (by assumption) | exact isI.gx (isR.i (by assumption)) | exact isI.gx (isRd.i (by assumption)) | exact isI.gc (isRd.i (by assumption)) | exact isI.gx (isSp.i (by assumption)) | exact isW.gx (isR.w (by assumption)) | exact isW.gF (isR.w (by assumption)) | fail "no such object") ?_
      refine rj_icmp_lt (pc := 18) (tgt := 25) dX9_taskAt_18 (by decide) (by first | exact b01_r | exact bz_r | omega | (constructor <;> omega) | apply_assumption | (apply atF_r; assumption) | fail "no range") (by first | exact b01_r | exact bz_r | omega | (constructor <;> omega) | apply_assumption | (apply atF_r; assumption) | fail "no range") (fun c_18 => ?_) (fun c_18 => ?_)
      · refine r_aload_n (pc := 25) dX9_taskAt_25 rfl (by first | rfl | exact isRefV_rf _) ?_
        refine r_getf (pc := 26) dX9_taskAt_26 fX9_25 (by first | assumption | exact isI.gx (by assumption) | exact isI.gc (by assumption) | exact isW.gx (by assumption) | exact isW.gF (by assumption) | exact isW.gT (by assumption) (by omega) | exact isW.gS (by assumption) (by omega) | exact isW.gK (by assumption) (by omega) | exact isW.g1 (by assumption) | exact isW.g2 (by assumption) | exact isW.g3 (by assumption) | exact isI.gx (isW.i0 (by assumption)) | exact isI.gc (isW.i0 (by assumption)) | exact isI.gx (isW.i1 (by assumption)) | exact isI.gc (isW.i1 (by assumption)) | exact isI.gx (isW.i2 (by assumption)) | exact isI.gc (isW.i2 (by assumption)) | exact isI.gx (isW.i3 (by assumption)) | exact isI.gc (isW.i3 (by assumption)) | exact isI.gx (isW.i4 (by assumption)) | exact isI.gc (isW.i4 (by assumption)) | exact isI.gx (isW.i5 (by assumption)) | exact isI.gc (isW.i5 (by assumption)) | exact isR.gx (by assumption) | exact isRd.gx (by assumption) | exact isSp.gx (by assumption) | exact isI.gx (isR.i (by assumption)) | exact isI.gx (isRd.i (by assumption)) | exact isI.gc (isRd.i (by assumption)) | exact isI.gx (isSp.i (by assumption)) | exact isW.gx (isR.w (by assumption)) | exact isW.gF (isR.w (by assumption)) | fail "no such object") (by rfl) ?_
        refine r_iload_n (pc := 29) dX9_taskAt_29 rfl ?_
        first | refine rc_aaldT (pc := 30) dX9_taskAt_30 (by assumption) (by first | exact b01_r | exact bz_r | omega | (constructor <;> omega) | apply_assumption | (apply atF_r; assumption) | fail "no range") (by first | exact b01_r | exact bz_r | omega | (constructor <;> omega) | apply_assumption | (apply atF_r; assumption) | fail "no range") (by first | exact b01_r | exact bz_r | omega | (constructor <;> omega) | apply_assumption | (apply atF_r; assumption) | fail "no range") ?_ | refine rc_aaldS (pc := 30) dX9_taskAt_30 (by assumption) (by first | exact b01_r | exact bz_r | omega | (constructor <;> omega) | apply_assumption | (apply atF_r; assumption) | fail "no range") (by first | exact b01_r | exact bz_r | omega | (constructor <;> omega) | apply_assumption | (apply atF_r; assumption) | fail "no range") (by first | exact b01_r | exact bz_r | omega | (constructor <;> omega) | apply_assumption | (apply atF_r; assumption) | fail "no range") ?_ | refine rc_aaldK (pc := 30) dX9_taskAt_30 (by assumption) (by first | exact b01_r | exact bz_r | omega | (constructor <;> omega) | apply_assumption | (apply atF_r; assumption) | fail "no range") (by first | exact b01_r | exact bz_r | omega | (constructor <;> omega) | apply_assumption | (apply atF_r; assumption) | fail "no range") (by first | exact b01_r | exact bz_r | omega | (constructor <;> omega) | apply_assumption | (apply atF_r; assumption) | fail "no range") ?_
        refine r_areturn (pc := 31) _ dX9_taskAt_31 rfl (Or.inl ⟨_, rfl⟩) (by first | rfl | exact isRefV_rf _) ?_
        first
        | exact ⟨by rw [tkAt_p (by omega)]; rfl, rfl⟩
        | exact ⟨by rw [tkAt_n (by omega)]; rfl, rfl⟩
      · refine r_null (pc := 21) dX9_taskAt_21 ?_
        refine r_goto (pc := 22) (tgt := 31) dX9_taskAt_22 (by decide) ?_
        refine r_areturn (pc := 31) _ dX9_taskAt_31 rfl (Or.inl ⟨_, rfl⟩) (by first | rfl | exact isRefV_rf _) ?_
        first
        | exact ⟨by rw [tkAt_p (by omega)]; rfl, rfl⟩
        | exact ⟨by rw [tkAt_n (by omega)]; rfl, rfl⟩
set_option maxHeartbeats 4000000 in
set_option maxRecDepth 100000 in
theorem cw_isHeld {G : mG} {l : Launch} (d : Nat) {h : mH} {w : Nat} {c : Nat → Int} {C : Nat → Nat → Int} {nm : Nat → Int64} {g : Nat → Option Nat} (hW : isW h w c C nm g) (hc : ∀ q, InR (c q)) {i : Int} (hi : InR i) : RUNM G l (d + 1) mX9_isHeld [.ref w, .int (J i)] h (fun v h' => v = some (.int (J (b01 (inW c 0 90 i ∧ c (32 + 3 * i.toNat) = 0)))) ∧ h' = h) := by
  refine RUNM.of (by decide +kernel) (Nat.le_of_ble_eq_true rfl) ?_
  have r0 := hc 0
  refine r_aload_n (pc := 0) dX9_isHeld_0 rfl (by first | rfl | exact isRefV_rf _) ?_
  refine r_iload_n (pc := 1) dX9_isHeld_1 rfl ?_
  refine r_callV1 (pc := 2) dX9_isHeld_2 qX9_thingAt kX9_96 vX9_thingAt (by first | assumption | exact isI.gx (by assumption) | exact isI.gc (by assumption) | exact isW.gx (by assumption) | exact isW.gF (by assumption) | exact isW.gT (by assumption) (by omega) | exact isW.gS (by assumption) (by omega) | exact isW.gK (by assumption) (by omega) | exact isW.g1 (by assumption) | exact isW.g2 (by assumption) | exact isW.g3 (by assumption) | exact isI.gx (isW.i0 (by assumption)) | exact isI.gc (isW.i0 (by assumption)) | exact isI.gx (isW.i1 (by assumption)) | exact isI.gc (isW.i1 (by assumption)) | exact isI.gx (isW.i2 (by assumption)) | exact isI.gc (isW.i2 (by assumption)) | exact isI.gx (isW.i3 (by assumption)) | exact isI.gc (isW.i3 (by assumption)) | exact isI.gx (isW.i4 (by assumption)) | exact isI.gc (isW.i4 (by assumption)) | exact isI.gx (isW.i5 (by assumption)) | exact isI.gc (isW.i5 (by assumption)) | exact isR.gx (by assumption) | exact isRd.gx (by assumption) | exact isSp.gx (by assumption) | exact isI.gx (isR.i (by assumption)) | exact isI.gx (isRd.i (by assumption)) | exact isI.gc (isRd.i (by assumption)) | exact isI.gx (isSp.i (by assumption)) | exact isW.gx (isR.w (by assumption)) | exact isW.gF (isR.w (by assumption)) | fail "no such object") rfl rfl (Nat.le_of_ble_eq_true rfl) (cw_thingAt _ hW hc hi) (fun v_2 h_2 q_2 => ?_)
  obtain ⟨q1_2, rfl⟩ := q_2
  by_cases e_2 : inW c 0 90 i
  · obtain rfl := thAt_P e_2 q1_2
    refine r_astore_n (pc := 5) dX9_isHeld_5 (Nat.le_of_ble_eq_true rfl) (by first | rfl | exact isRefV_rf _) ?_
    dsimp only [lsSt, List.set, mLs, mEnt]
    refine r_aload_n (pc := 6) dX9_isHeld_6 rfl (by first | rfl | exact isRefV_rf _) ?_
    refine r_ifnull (pc := 7) (tgt := 21) dX9_isHeld_7 (by decide) (by first | rfl | exact isRefV_rf _) (fun c_7 => by cases c_7) (fun a_7 c_7 => ?_)
    refine r_aload_n (pc := 10) dX9_isHeld_10 rfl (by first | rfl | exact isRefV_rf _) ?_
    refine r_getf (pc := 11) dX9_isHeld_11 fX9_114 (by first | assumption | exact isI.gx (by assumption) | exact isI.gc (by assumption) | exact isW.gx (by assumption) | exact isW.gF (by assumption) | exact isW.gT (by assumption) (by omega) | exact isW.gS (by assumption) (by omega) | exact isW.gK (by assumption) (by omega) | exact isW.g1 (by assumption) | exact isW.g2 (by assumption) | exact isW.g3 (by assumption) | exact isI.gx (isW.i0 (by assumption)) | exact isI.gc (isW.i0 (by assumption)) | exact isI.gx (isW.i1 (by assumption)) | exact isI.gc (isW.i1 (by assumption)) | exact isI.gx (isW.i2 (by assumption)) | exact isI.gc (isW.i2 (by assumption)) | exact isI.gx (isW.i3 (by assumption)) | exact isI.gc (isW.i3 (by assumption)) | exact isI.gx (isW.i4 (by assumption)) | exact isI.gc (isW.i4 (by assumption)) | exact isI.gx (isW.i5 (by assumption)) | exact isI.gc (isW.i5 (by assumption)) | exact isR.gx (by assumption) | exact isRd.gx (by assumption) | exact isSp.gx (by assumption) | exact isI.gx (isR.i (by assumption)) | exact isI.gx (isRd.i (by assumption)) | exact isI.gc (isRd.i (by assumption)) | exact isI.gx (isSp.i (by assumption)) | exact isW.gx (isR.w (by assumption)) | exact isW.gF (isR.w (by assumption)) | fail "no such object") (by rfl) ?_
    refine rj_if_ne (pc := 14) (tgt := 21) dX9_isHeld_14 (by decide) (by first | exact b01_r | exact bz_r | omega | (constructor <;> omega) | apply_assumption | (apply atF_r; assumption) | fail "no range") (fun c_14 => ?_) (fun c_14 => ?_)
    · try simp only [b01_0, bz_0, Classical.not_not] at c_14
      refine rj_iconst (pc := 21) dX9_isHeld_21 ?_
      refine r_ireturn (pc := 22) .boolean dX9_isHeld_22 rfl (by first | exact nar_J0 | exact nar_J1 | exact nar_b01 | exact nar_bz) ?_
      first
      | exact ⟨rfl, rfl⟩
      | exact ⟨vf (by omega), rfl⟩
      | exact ⟨vt (by omega), rfl⟩
    · try simp only [b01_0, bz_0, Classical.not_not] at c_14
      refine rj_iconst (pc := 17) dX9_isHeld_17 ?_
      refine r_goto (pc := 18) (tgt := 22) dX9_isHeld_18 (by decide) ?_
      refine r_ireturn (pc := 22) .boolean dX9_isHeld_22 rfl (by first | exact nar_J0 | exact nar_J1 | exact nar_b01 | exact nar_bz) ?_
      first
      | exact ⟨rfl, rfl⟩
      | exact ⟨vf (by omega), rfl⟩
      | exact ⟨vt (by omega), rfl⟩
  · obtain rfl := thAt_N e_2 q1_2
    refine r_astore_n (pc := 5) dX9_isHeld_5 (Nat.le_of_ble_eq_true rfl) (by first | rfl | exact isRefV_rf _) ?_
    dsimp only [lsSt, List.set, mLs, mEnt]
    refine r_aload_n (pc := 6) dX9_isHeld_6 rfl (by first | rfl | exact isRefV_rf _) ?_
    refine r_ifnull (pc := 7) (tgt := 21) dX9_isHeld_7 (by decide) (by first | rfl | exact isRefV_rf _) (fun c_7 => ?_) (fun a_7 c_7 => by cases c_7)
    refine rj_iconst (pc := 21) dX9_isHeld_21 ?_
    refine r_ireturn (pc := 22) .boolean dX9_isHeld_22 rfl (by first | exact nar_J0 | exact nar_J1 | exact nar_b01 | exact nar_bz) ?_
    first
    | exact ⟨rfl, rfl⟩
    | exact ⟨vf (by omega), rfl⟩
    | exact ⟨vt (by omega), rfl⟩
set_option maxHeartbeats 4000000 in
set_option maxRecDepth 100000 in
theorem cw_isOpen {G : mG} {l : Launch} (d : Nat) {h : mH} {w : Nat} {c : Nat → Int} {C : Nat → Nat → Int} {nm : Nat → Int64} {g : Nat → Option Nat} (hW : isW h w c C nm g) (hc : ∀ q, InR (c q)) {i : Int} (hi : InR i) : RUNM G l (d + 1) mX9_isOpen [.ref w, .int (J i)] h (fun v h' => v = some (.int (J (b01 (inW c 1 60 i ∧ c (304 + 3 * i.toNat) = 0)))) ∧ h' = h) := by
  refine RUNM.of (by decide +kernel) (Nat.le_of_ble_eq_true rfl) ?_
  have r1 := hc 1
  refine r_aload_n (pc := 0) dX9_isOpen_0 rfl (by first | rfl | exact isRefV_rf _) ?_
  refine r_iload_n (pc := 1) dX9_isOpen_1 rfl ?_
  refine r_callV1 (pc := 2) dX9_isOpen_2 qX9_scopeAt kX9_61 vX9_scopeAt (by first | assumption | exact isI.gx (by assumption) | exact isI.gc (by assumption) | exact isW.gx (by assumption) | exact isW.gF (by assumption) | exact isW.gT (by assumption) (by omega) | exact isW.gS (by assumption) (by omega) | exact isW.gK (by assumption) (by omega) | exact isW.g1 (by assumption) | exact isW.g2 (by assumption) | exact isW.g3 (by assumption) | exact isI.gx (isW.i0 (by assumption)) | exact isI.gc (isW.i0 (by assumption)) | exact isI.gx (isW.i1 (by assumption)) | exact isI.gc (isW.i1 (by assumption)) | exact isI.gx (isW.i2 (by assumption)) | exact isI.gc (isW.i2 (by assumption)) | exact isI.gx (isW.i3 (by assumption)) | exact isI.gc (isW.i3 (by assumption)) | exact isI.gx (isW.i4 (by assumption)) | exact isI.gc (isW.i4 (by assumption)) | exact isI.gx (isW.i5 (by assumption)) | exact isI.gc (isW.i5 (by assumption)) | exact isR.gx (by assumption) | exact isRd.gx (by assumption) | exact isSp.gx (by assumption) | exact isI.gx (isR.i (by assumption)) | exact isI.gx (isRd.i (by assumption)) | exact isI.gc (isRd.i (by assumption)) | exact isI.gx (isSp.i (by assumption)) | exact isW.gx (isR.w (by assumption)) | exact isW.gF (isR.w (by assumption)) | fail "no such object") rfl rfl (Nat.le_of_ble_eq_true rfl) (cw_scopeAt _ hW hc hi) (fun v_2 h_2 q_2 => ?_)
  obtain ⟨q1_2, rfl⟩ := q_2
  by_cases e_2 : inW c 1 60 i
  · obtain rfl := scAt_P e_2 q1_2
    refine r_astore_n (pc := 5) dX9_isOpen_5 (Nat.le_of_ble_eq_true rfl) (by first | rfl | exact isRefV_rf _) ?_
    dsimp only [lsSt, List.set, mLs, mEnt]
    refine r_aload_n (pc := 6) dX9_isOpen_6 rfl (by first | rfl | exact isRefV_rf _) ?_
    refine r_ifnull (pc := 7) (tgt := 21) dX9_isOpen_7 (by decide) (by first | rfl | exact isRefV_rf _) (fun c_7 => by cases c_7) (fun a_7 c_7 => ?_)
    refine r_aload_n (pc := 10) dX9_isOpen_10 rfl (by first | rfl | exact isRefV_rf _) ?_
    refine r_getf (pc := 11) dX9_isOpen_11 fX9_127 (by first | assumption | exact isI.gx (by assumption) | exact isI.gc (by assumption) | exact isW.gx (by assumption) | exact isW.gF (by assumption) | exact isW.gT (by assumption) (by omega) | exact isW.gS (by assumption) (by omega) | exact isW.gK (by assumption) (by omega) | exact isW.g1 (by assumption) | exact isW.g2 (by assumption) | exact isW.g3 (by assumption) | exact isI.gx (isW.i0 (by assumption)) | exact isI.gc (isW.i0 (by assumption)) | exact isI.gx (isW.i1 (by assumption)) | exact isI.gc (isW.i1 (by assumption)) | exact isI.gx (isW.i2 (by assumption)) | exact isI.gc (isW.i2 (by assumption)) | exact isI.gx (isW.i3 (by assumption)) | exact isI.gc (isW.i3 (by assumption)) | exact isI.gx (isW.i4 (by assumption)) | exact isI.gc (isW.i4 (by assumption)) | exact isI.gx (isW.i5 (by assumption)) | exact isI.gc (isW.i5 (by assumption)) | exact isR.gx (by assumption) | exact isRd.gx (by assumption) | exact isSp.gx (by assumption) | exact isI.gx (isR.i (by assumption)) | exact isI.gx (isRd.i (by assumption)) | exact isI.gc (isRd.i (by assumption)) | exact isI.gx (isSp.i (by assumption)) | exact isW.gx (isR.w (by assumption)) | exact isW.gF (isR.w (by assumption)) | fail "no such object") (by rfl) ?_
    refine rj_if_ne (pc := 14) (tgt := 21) dX9_isOpen_14 (by decide) (by first | exact b01_r | exact bz_r | omega | (constructor <;> omega) | apply_assumption | (apply atF_r; assumption) | fail "no range") (fun c_14 => ?_) (fun c_14 => ?_)
    · try simp only [b01_0, bz_0, Classical.not_not] at c_14
      refine rj_iconst (pc := 21) dX9_isOpen_21 ?_
      refine r_ireturn (pc := 22) .boolean dX9_isOpen_22 rfl (by first | exact nar_J0 | exact nar_J1 | exact nar_b01 | exact nar_bz) ?_
      first
      | exact ⟨rfl, rfl⟩
      | exact ⟨vf (by omega), rfl⟩
      | exact ⟨vt (by omega), rfl⟩
    · try simp only [b01_0, bz_0, Classical.not_not] at c_14
      refine rj_iconst (pc := 17) dX9_isOpen_17 ?_
      refine r_goto (pc := 18) (tgt := 22) dX9_isOpen_18 (by decide) ?_
      refine r_ireturn (pc := 22) .boolean dX9_isOpen_22 rfl (by first | exact nar_J0 | exact nar_J1 | exact nar_b01 | exact nar_bz) ?_
      first
      | exact ⟨rfl, rfl⟩
      | exact ⟨vf (by omega), rfl⟩
      | exact ⟨vt (by omega), rfl⟩
  · obtain rfl := scAt_N e_2 q1_2
    refine r_astore_n (pc := 5) dX9_isOpen_5 (Nat.le_of_ble_eq_true rfl) (by first | rfl | exact isRefV_rf _) ?_
    dsimp only [lsSt, List.set, mLs, mEnt]
    refine r_aload_n (pc := 6) dX9_isOpen_6 rfl (by first | rfl | exact isRefV_rf _) ?_
    refine r_ifnull (pc := 7) (tgt := 21) dX9_isOpen_7 (by decide) (by first | rfl | exact isRefV_rf _) (fun c_7 => ?_) (fun a_7 c_7 => by cases c_7)
    refine rj_iconst (pc := 21) dX9_isOpen_21 ?_
    refine r_ireturn (pc := 22) .boolean dX9_isOpen_22 rfl (by first | exact nar_J0 | exact nar_J1 | exact nar_b01 | exact nar_bz) ?_
    first
    | exact ⟨rfl, rfl⟩
    | exact ⟨vf (by omega), rfl⟩
    | exact ⟨vt (by omega), rfl⟩
set_option maxHeartbeats 4000000 in
set_option maxRecDepth 100000 in
theorem cw_isReady {G : mG} {l : Launch} (d : Nat) {h : mH} {w : Nat} {c : Nat → Int} {C : Nat → Nat → Int} {nm : Nat → Int64} {g : Nat → Option Nat} (hW : isW h w c C nm g) (hc : ∀ q, InR (c q)) {i : Int} (hi : InR i) : RUNM G l (d + 1) mX9_isReady [.ref w, .int (J i)] h (fun v h' => v = some (.int (J (b01 (inW c 2 10 i ∧ c (489 + 9 * i.toNat) = 0)))) ∧ h' = h) := by
  refine RUNM.of (by decide +kernel) (Nat.le_of_ble_eq_true rfl) ?_
  have r2 := hc 2
  refine r_aload_n (pc := 0) dX9_isReady_0 rfl (by first | rfl | exact isRefV_rf _) ?_
  refine r_iload_n (pc := 1) dX9_isReady_1 rfl ?_
  refine r_callV1 (pc := 2) dX9_isReady_2 qX9_taskAt kX9_128 vX9_taskAt (by first | assumption | exact isI.gx (by assumption) | exact isI.gc (by assumption) | exact isW.gx (by assumption) | exact isW.gF (by assumption) | exact isW.gT (by assumption) (by omega) | exact isW.gS (by assumption) (by omega) | exact isW.gK (by assumption) (by omega) | exact isW.g1 (by assumption) | exact isW.g2 (by assumption) | exact isW.g3 (by assumption) | exact isI.gx (isW.i0 (by assumption)) | exact isI.gc (isW.i0 (by assumption)) | exact isI.gx (isW.i1 (by assumption)) | exact isI.gc (isW.i1 (by assumption)) | exact isI.gx (isW.i2 (by assumption)) | exact isI.gc (isW.i2 (by assumption)) | exact isI.gx (isW.i3 (by assumption)) | exact isI.gc (isW.i3 (by assumption)) | exact isI.gx (isW.i4 (by assumption)) | exact isI.gc (isW.i4 (by assumption)) | exact isI.gx (isW.i5 (by assumption)) | exact isI.gc (isW.i5 (by assumption)) | exact isR.gx (by assumption) | exact isRd.gx (by assumption) | exact isSp.gx (by assumption) | exact isI.gx (isR.i (by assumption)) | exact isI.gx (isRd.i (by assumption)) | exact isI.gc (isRd.i (by assumption)) | exact isI.gx (isSp.i (by assumption)) | exact isW.gx (isR.w (by assumption)) | exact isW.gF (isR.w (by assumption)) | fail "no such object") rfl rfl (Nat.le_of_ble_eq_true rfl) (cw_taskAt _ hW hc hi) (fun v_2 h_2 q_2 => ?_)
  obtain ⟨q1_2, rfl⟩ := q_2
  by_cases e_2 : inW c 2 10 i
  · obtain rfl := tkAt_P e_2 q1_2
    refine r_astore_n (pc := 5) dX9_isReady_5 (Nat.le_of_ble_eq_true rfl) (by first | rfl | exact isRefV_rf _) ?_
    dsimp only [lsSt, List.set, mLs, mEnt]
    refine r_aload_n (pc := 6) dX9_isReady_6 rfl (by first | rfl | exact isRefV_rf _) ?_
    refine r_ifnull (pc := 7) (tgt := 21) dX9_isReady_7 (by decide) (by first | rfl | exact isRefV_rf _) (fun c_7 => by cases c_7) (fun a_7 c_7 => ?_)
    refine r_aload_n (pc := 10) dX9_isReady_10 rfl (by first | rfl | exact isRefV_rf _) ?_
    refine r_getf (pc := 11) dX9_isReady_11 fX9_143 (by first | assumption | exact isI.gx (by assumption) | exact isI.gc (by assumption) | exact isW.gx (by assumption) | exact isW.gF (by assumption) | exact isW.gT (by assumption) (by omega) | exact isW.gS (by assumption) (by omega) | exact isW.gK (by assumption) (by omega) | exact isW.g1 (by assumption) | exact isW.g2 (by assumption) | exact isW.g3 (by assumption) | exact isI.gx (isW.i0 (by assumption)) | exact isI.gc (isW.i0 (by assumption)) | exact isI.gx (isW.i1 (by assumption)) | exact isI.gc (isW.i1 (by assumption)) | exact isI.gx (isW.i2 (by assumption)) | exact isI.gc (isW.i2 (by assumption)) | exact isI.gx (isW.i3 (by assumption)) | exact isI.gc (isW.i3 (by assumption)) | exact isI.gx (isW.i4 (by assumption)) | exact isI.gc (isW.i4 (by assumption)) | exact isI.gx (isW.i5 (by assumption)) | exact isI.gc (isW.i5 (by assumption)) | exact isR.gx (by assumption) | exact isRd.gx (by assumption) | exact isSp.gx (by assumption) | exact isI.gx (isR.i (by assumption)) | exact isI.gx (isRd.i (by assumption)) | exact isI.gc (isRd.i (by assumption)) | exact isI.gx (isSp.i (by assumption)) | exact isW.gx (isR.w (by assumption)) | exact isW.gF (isR.w (by assumption)) | fail "no such object") (by rfl) ?_
    refine rj_if_ne (pc := 14) (tgt := 21) dX9_isReady_14 (by decide) (by first | exact b01_r | exact bz_r | omega | (constructor <;> omega) | apply_assumption | (apply atF_r; assumption) | fail "no range") (fun c_14 => ?_) (fun c_14 => ?_)
    · try simp only [b01_0, bz_0, Classical.not_not] at c_14
      refine rj_iconst (pc := 21) dX9_isReady_21 ?_
      refine r_ireturn (pc := 22) .boolean dX9_isReady_22 rfl (by first | exact nar_J0 | exact nar_J1 | exact nar_b01 | exact nar_bz) ?_
      first
      | exact ⟨rfl, rfl⟩
      | exact ⟨vf (by omega), rfl⟩
      | exact ⟨vt (by omega), rfl⟩
    · try simp only [b01_0, bz_0, Classical.not_not] at c_14
      refine rj_iconst (pc := 17) dX9_isReady_17 ?_
      refine r_goto (pc := 18) (tgt := 22) dX9_isReady_18 (by decide) ?_
      refine r_ireturn (pc := 22) .boolean dX9_isReady_22 rfl (by first | exact nar_J0 | exact nar_J1 | exact nar_b01 | exact nar_bz) ?_
      first
      | exact ⟨rfl, rfl⟩
      | exact ⟨vf (by omega), rfl⟩
      | exact ⟨vt (by omega), rfl⟩
  · obtain rfl := tkAt_N e_2 q1_2
    refine r_astore_n (pc := 5) dX9_isReady_5 (Nat.le_of_ble_eq_true rfl) (by first | rfl | exact isRefV_rf _) ?_
    dsimp only [lsSt, List.set, mLs, mEnt]
    refine r_aload_n (pc := 6) dX9_isReady_6 rfl (by first | rfl | exact isRefV_rf _) ?_
    refine r_ifnull (pc := 7) (tgt := 21) dX9_isReady_7 (by decide) (by first | rfl | exact isRefV_rf _) (fun c_7 => ?_) (fun a_7 c_7 => by cases c_7)
    refine rj_iconst (pc := 21) dX9_isReady_21 ?_
    refine r_ireturn (pc := 22) .boolean dX9_isReady_22 rfl (by first | exact nar_J0 | exact nar_J1 | exact nar_b01 | exact nar_bz) ?_
    first
    | exact ⟨rfl, rfl⟩
    | exact ⟨vf (by omega), rfl⟩
    | exact ⟨vt (by omega), rfl⟩
def ownF (c : Nat → Int) (i : Int) : Int := if 100 ≤ i then (if inW c 1 60 (i - 100) then c (305 + 3 * (i - 100).toNat) else -1) else (if inW c 0 90 i then c (33 + 3 * i.toNat) else -1)
theorem ownF_r {c : Nat → Int} (hc : ∀ q, InR (c q)) (i : Int) : InR (ownF c i) := by
  unfold ownF
  repeat' split
  all_goals first | exact hc _ | decide
set_option maxHeartbeats 4000000 in
set_option maxRecDepth 100000 in
theorem cw_ownerOf {G : mG} {l : Launch} (d : Nat) {h : mH} {w : Nat} {c : Nat → Int} {C : Nat → Nat → Int} {nm : Nat → Int64} {g : Nat → Option Nat} (hW : isW h w c C nm g) (hc : ∀ q, InR (c q)) {i : Int} (hi : InR i) : RUNM G l (d + 1) mX9_ownerOf [.ref w, .int (J i)] h (fun v h' => v = some (.int (J (ownF c i))) ∧ h' = h) := by
  refine RUNM.of (by decide +kernel) (Nat.le_of_ble_eq_true rfl) ?_
  have r0 := hc 0
  have r1 := hc 1
  refine r_iload_n (pc := 0) dX9_ownerOf_0 rfl ?_
  refine rj_bipush (pc := 1) dX9_ownerOf_1 (by decide +kernel) ?_
  refine rj_icmp_lt (pc := 3) (tgt := 28) dX9_ownerOf_3 (by decide) (by first | exact b01_r | exact bz_r | omega | (constructor <;> omega) | apply_assumption | (apply atF_r; assumption) | fail "no range") (by first | exact b01_r | exact bz_r | omega | (constructor <;> omega) | apply_assumption | (apply atF_r; assumption) | fail "no range") (fun c_3 => ?_) (fun c_3 => ?_)
  · refine r_aload_n (pc := 28) dX9_ownerOf_28 rfl (by first | rfl | exact isRefV_rf _) ?_
    refine r_iload_n (pc := 29) dX9_ownerOf_29 rfl ?_
    refine r_callV1 (pc := 30) dX9_ownerOf_30 qX9_thingAt kX9_96 vX9_thingAt (by first | assumption | exact isI.gx (by assumption) | exact isI.gc (by assumption) | exact isW.gx (by assumption) | exact isW.gF (by assumption) | exact isW.gT (by assumption) (by omega) | exact isW.gS (by assumption) (by omega) | exact isW.gK (by assumption) (by omega) | exact isW.g1 (by assumption) | exact isW.g2 (by assumption) | exact isW.g3 (by assumption) | exact isI.gx (isW.i0 (by assumption)) | exact isI.gc (isW.i0 (by assumption)) | exact isI.gx (isW.i1 (by assumption)) | exact isI.gc (isW.i1 (by assumption)) | exact isI.gx (isW.i2 (by assumption)) | exact isI.gc (isW.i2 (by assumption)) | exact isI.gx (isW.i3 (by assumption)) | exact isI.gc (isW.i3 (by assumption)) | exact isI.gx (isW.i4 (by assumption)) | exact isI.gc (isW.i4 (by assumption)) | exact isI.gx (isW.i5 (by assumption)) | exact isI.gc (isW.i5 (by assumption)) | exact isR.gx (by assumption) | exact isRd.gx (by assumption) | exact isSp.gx (by assumption) | exact isI.gx (isR.i (by assumption)) | exact isI.gx (isRd.i (by assumption)) | exact isI.gc (isRd.i (by assumption)) | exact isI.gx (isSp.i (by assumption)) | exact isW.gx (isR.w (by assumption)) | exact isW.gF (isR.w (by assumption)) | fail "no such object") rfl rfl (Nat.le_of_ble_eq_true rfl) (cw_thingAt _ hW hc hi) (fun v_30 h_30 q_30 => ?_)
    obtain ⟨q1_30, rfl⟩ := q_30
    by_cases e_30 : inW c 0 90 i
    · obtain rfl := thAt_P e_30 q1_30
      refine r_astore_n (pc := 33) dX9_ownerOf_33 (Nat.le_of_ble_eq_true rfl) (by first | rfl | exact isRefV_rf _) ?_
      dsimp only [lsSt, List.set, mLs, mEnt]
      refine r_aload_n (pc := 34) dX9_ownerOf_34 rfl (by first | rfl | exact isRefV_rf _) ?_
      refine r_ifnonnull (pc := 35) (tgt := 42) dX9_ownerOf_35 (by decide) (by first | rfl | exact isRefV_rf _) (fun a_35 c_35 => ?_) (fun c_35 => by cases c_35)
      refine r_aload_n (pc := 42) dX9_ownerOf_42 rfl (by first | rfl | exact isRefV_rf _) ?_
      refine r_getf (pc := 43) dX9_ownerOf_43 fX9_117 (by first | assumption | exact isI.gx (by assumption) | exact isI.gc (by assumption) | exact isW.gx (by assumption) | exact isW.gF (by assumption) | exact isW.gT (by assumption) (by omega) | exact isW.gS (by assumption) (by omega) | exact isW.gK (by assumption) (by omega) | exact isW.g1 (by assumption) | exact isW.g2 (by assumption) | exact isW.g3 (by assumption) | exact isI.gx (isW.i0 (by assumption)) | exact isI.gc (isW.i0 (by assumption)) | exact isI.gx (isW.i1 (by assumption)) | exact isI.gc (isW.i1 (by assumption)) | exact isI.gx (isW.i2 (by assumption)) | exact isI.gc (isW.i2 (by assumption)) | exact isI.gx (isW.i3 (by assumption)) | exact isI.gc (isW.i3 (by assumption)) | exact isI.gx (isW.i4 (by assumption)) | exact isI.gc (isW.i4 (by assumption)) | exact isI.gx (isW.i5 (by assumption)) | exact isI.gc (isW.i5 (by assumption)) | exact isR.gx (by assumption) | exact isRd.gx (by assumption) | exact isSp.gx (by assumption) | exact isI.gx (isR.i (by assumption)) | exact isI.gx (isRd.i (by assumption)) | exact isI.gc (isRd.i (by assumption)) | exact isI.gx (isSp.i (by assumption)) | exact isW.gx (isR.w (by assumption)) | exact isW.gF (isR.w (by assumption)) | fail "no such object") (by rfl) ?_
      refine r_ireturn (pc := 46) .int dX9_ownerOf_46 rfl (by first | rfl | assumption) ?_
      first
      | exact ⟨by unfold ownF; rw [if_pos (by omega), if_pos (by omega)], rfl⟩
      | exact ⟨by unfold ownF; rw [if_pos (by omega), if_neg (by omega)], rfl⟩
      | exact ⟨by unfold ownF; rw [if_neg (by omega), if_pos (by omega)], rfl⟩
      | exact ⟨by unfold ownF; rw [if_neg (by omega), if_neg (by omega)], rfl⟩
    · obtain rfl := thAt_N e_30 q1_30
      refine r_astore_n (pc := 33) dX9_ownerOf_33 (Nat.le_of_ble_eq_true rfl) (by first | rfl | exact isRefV_rf _) ?_
      dsimp only [lsSt, List.set, mLs, mEnt]
      refine r_aload_n (pc := 34) dX9_ownerOf_34 rfl (by first | rfl | exact isRefV_rf _) ?_
      refine r_ifnonnull (pc := 35) (tgt := 42) dX9_ownerOf_35 (by decide) (by first | rfl | exact isRefV_rf _) (fun a_35 c_35 => by cases c_35) (fun c_35 => ?_)
      refine rj_iconst (pc := 38) dX9_ownerOf_38 ?_
      refine r_goto (pc := 39) (tgt := 46) dX9_ownerOf_39 (by decide) ?_
      refine r_ireturn (pc := 46) .int dX9_ownerOf_46 rfl (by first | rfl | assumption) ?_
      first
      | exact ⟨by unfold ownF; rw [if_pos (by omega), if_pos (by omega)], rfl⟩
      | exact ⟨by unfold ownF; rw [if_pos (by omega), if_neg (by omega)], rfl⟩
      | exact ⟨by unfold ownF; rw [if_neg (by omega), if_pos (by omega)], rfl⟩
      | exact ⟨by unfold ownF; rw [if_neg (by omega), if_neg (by omega)], rfl⟩
  · refine r_aload_n (pc := 6) dX9_ownerOf_6 rfl (by first | rfl | exact isRefV_rf _) ?_
    refine r_iload_n (pc := 7) dX9_ownerOf_7 rfl ?_
    refine rj_bipush (pc := 8) dX9_ownerOf_8 (by decide +kernel) ?_
    refine rj_isub (pc := 10) dX9_ownerOf_10 ?_
    refine r_callV1 (pc := 11) dX9_ownerOf_11 qX9_scopeAt kX9_61 vX9_scopeAt (by first | assumption | exact isI.gx (by assumption) | exact isI.gc (by assumption) | exact isW.gx (by assumption) | exact isW.gF (by assumption) | exact isW.gT (by assumption) (by omega) | exact isW.gS (by assumption) (by omega) | exact isW.gK (by assumption) (by omega) | exact isW.g1 (by assumption) | exact isW.g2 (by assumption) | exact isW.g3 (by assumption) | exact isI.gx (isW.i0 (by assumption)) | exact isI.gc (isW.i0 (by assumption)) | exact isI.gx (isW.i1 (by assumption)) | exact isI.gc (isW.i1 (by assumption)) | exact isI.gx (isW.i2 (by assumption)) | exact isI.gc (isW.i2 (by assumption)) | exact isI.gx (isW.i3 (by assumption)) | exact isI.gc (isW.i3 (by assumption)) | exact isI.gx (isW.i4 (by assumption)) | exact isI.gc (isW.i4 (by assumption)) | exact isI.gx (isW.i5 (by assumption)) | exact isI.gc (isW.i5 (by assumption)) | exact isR.gx (by assumption) | exact isRd.gx (by assumption) | exact isSp.gx (by assumption) | exact isI.gx (isR.i (by assumption)) | exact isI.gx (isRd.i (by assumption)) | exact isI.gc (isRd.i (by assumption)) | exact isI.gx (isSp.i (by assumption)) | exact isW.gx (isR.w (by assumption)) | exact isW.gF (isR.w (by assumption)) | fail "no such object") rfl rfl (Nat.le_of_ble_eq_true rfl) (cw_scopeAt _ hW hc ⟨by omega, by omega⟩) (fun v_11 h_11 q_11 => ?_)
    obtain ⟨q1_11, rfl⟩ := q_11
    by_cases e_11 : inW c 1 60 (i - 100)
    · obtain rfl := scAt_P e_11 q1_11
      refine r_astore_n (pc := 14) dX9_ownerOf_14 (Nat.le_of_ble_eq_true rfl) (by first | rfl | exact isRefV_rf _) ?_
      dsimp only [lsSt, List.set, mLs, mEnt]
      refine r_aload_n (pc := 15) dX9_ownerOf_15 rfl (by first | rfl | exact isRefV_rf _) ?_
      refine r_ifnonnull (pc := 16) (tgt := 23) dX9_ownerOf_16 (by decide) (by first | rfl | exact isRefV_rf _) (fun a_16 c_16 => ?_) (fun c_16 => by cases c_16)
      refine r_aload_n (pc := 23) dX9_ownerOf_23 rfl (by first | rfl | exact isRefV_rf _) ?_
      refine r_getf (pc := 24) dX9_ownerOf_24 fX9_65 (by first | assumption | exact isI.gx (by assumption) | exact isI.gc (by assumption) | exact isW.gx (by assumption) | exact isW.gF (by assumption) | exact isW.gT (by assumption) (by omega) | exact isW.gS (by assumption) (by omega) | exact isW.gK (by assumption) (by omega) | exact isW.g1 (by assumption) | exact isW.g2 (by assumption) | exact isW.g3 (by assumption) | exact isI.gx (isW.i0 (by assumption)) | exact isI.gc (isW.i0 (by assumption)) | exact isI.gx (isW.i1 (by assumption)) | exact isI.gc (isW.i1 (by assumption)) | exact isI.gx (isW.i2 (by assumption)) | exact isI.gc (isW.i2 (by assumption)) | exact isI.gx (isW.i3 (by assumption)) | exact isI.gc (isW.i3 (by assumption)) | exact isI.gx (isW.i4 (by assumption)) | exact isI.gc (isW.i4 (by assumption)) | exact isI.gx (isW.i5 (by assumption)) | exact isI.gc (isW.i5 (by assumption)) | exact isR.gx (by assumption) | exact isRd.gx (by assumption) | exact isSp.gx (by assumption) | exact isI.gx (isR.i (by assumption)) | exact isI.gx (isRd.i (by assumption)) | exact isI.gc (isRd.i (by assumption)) | exact isI.gx (isSp.i (by assumption)) | exact isW.gx (isR.w (by assumption)) | exact isW.gF (isR.w (by assumption)) | fail "no such object") (by rfl) ?_
      refine r_ireturn (pc := 27) .int dX9_ownerOf_27 rfl (by first | rfl | assumption) ?_
      first
      | exact ⟨by unfold ownF; rw [if_pos (by omega), if_pos (by omega)], rfl⟩
      | exact ⟨by unfold ownF; rw [if_pos (by omega), if_neg (by omega)], rfl⟩
      | exact ⟨by unfold ownF; rw [if_neg (by omega), if_pos (by omega)], rfl⟩
      | exact ⟨by unfold ownF; rw [if_neg (by omega), if_neg (by omega)], rfl⟩
    · obtain rfl := scAt_N e_11 q1_11
      refine r_astore_n (pc := 14) dX9_ownerOf_14 (Nat.le_of_ble_eq_true rfl) (by first | rfl | exact isRefV_rf _) ?_
      dsimp only [lsSt, List.set, mLs, mEnt]
      refine r_aload_n (pc := 15) dX9_ownerOf_15 rfl (by first | rfl | exact isRefV_rf _) ?_
      refine r_ifnonnull (pc := 16) (tgt := 23) dX9_ownerOf_16 (by decide) (by first | rfl | exact isRefV_rf _) (fun a_16 c_16 => by cases c_16) (fun c_16 => ?_)
      refine rj_iconst (pc := 19) dX9_ownerOf_19 ?_
      refine r_goto (pc := 20) (tgt := 27) dX9_ownerOf_20 (by decide) ?_
      refine r_ireturn (pc := 27) .int dX9_ownerOf_27 rfl (by first | rfl | assumption) ?_
      first
      | exact ⟨by unfold ownF; rw [if_pos (by omega), if_pos (by omega)], rfl⟩
      | exact ⟨by unfold ownF; rw [if_pos (by omega), if_neg (by omega)], rfl⟩
      | exact ⟨by unfold ownF; rw [if_neg (by omega), if_pos (by omega)], rfl⟩
      | exact ⟨by unfold ownF; rw [if_neg (by omega), if_neg (by omega)], rfl⟩
set_option maxHeartbeats 4000000 in
set_option maxRecDepth 100000 in
theorem cw_thingsAreFull {G : mG} {l : Launch} (d : Nat) {h : mH} {w : Nat} {c : Nat → Int} {C : Nat → Nat → Int} {nm : Nat → Int64} {g : Nat → Option Nat} (hW : isW h w c C nm g) (hc : ∀ q, InR (c q)) : RUNM G l (d) mX9_thingsAreFull [.ref w] h (fun v h' => v = some (.int (J (b01 (90 ≤ c 0)))) ∧ h' = h) := by
  refine RUNM.of (by decide +kernel) (Nat.le_of_ble_eq_true rfl) ?_
  have r0 := hc 0
  refine r_aload_n (pc := 0) dX9_thingsAreFull_0 rfl (by first | rfl | exact isRefV_rf _) ?_
  refine r_getf (pc := 1) dX9_thingsAreFull_1 fX9_71 (by first | assumption | exact isI.gx (by assumption) | exact isI.gc (by assumption) | exact isW.gx (by assumption) | exact isW.gF (by assumption) | exact isW.gT (by assumption) (by omega) | exact isW.gS (by assumption) (by omega) | exact isW.gK (by assumption) (by omega) | exact isW.g1 (by assumption) | exact isW.g2 (by assumption) | exact isW.g3 (by assumption) | exact isI.gx (isW.i0 (by assumption)) | exact isI.gc (isW.i0 (by assumption)) | exact isI.gx (isW.i1 (by assumption)) | exact isI.gc (isW.i1 (by assumption)) | exact isI.gx (isW.i2 (by assumption)) | exact isI.gc (isW.i2 (by assumption)) | exact isI.gx (isW.i3 (by assumption)) | exact isI.gc (isW.i3 (by assumption)) | exact isI.gx (isW.i4 (by assumption)) | exact isI.gc (isW.i4 (by assumption)) | exact isI.gx (isW.i5 (by assumption)) | exact isI.gc (isW.i5 (by assumption)) | exact isR.gx (by assumption) | exact isRd.gx (by assumption) | exact isSp.gx (by assumption) | exact isI.gx (isR.i (by assumption)) | exact isI.gx (isRd.i (by assumption)) | exact isI.gc (isRd.i (by assumption)) | exact isI.gx (isSp.i (by assumption)) | exact isW.gx (isR.w (by assumption)) | exact isW.gF (isR.w (by assumption)) | fail "no such object") (by rfl) ?_
  refine r_aload_n (pc := 4) dX9_thingsAreFull_4 rfl (by first | rfl | exact isRefV_rf _) ?_
  refine r_getf (pc := 5) dX9_thingsAreFull_5 fX9_11 (by first | assumption | exact isI.gx (by assumption) | exact isI.gc (by assumption) | exact isW.gx (by assumption) | exact isW.gF (by assumption) | exact isW.gT (by assumption) (by omega) | exact isW.gS (by assumption) (by omega) | exact isW.gK (by assumption) (by omega) | exact isW.g1 (by assumption) | exact isW.g2 (by assumption) | exact isW.g3 (by assumption) | exact isI.gx (isW.i0 (by assumption)) | exact isI.gc (isW.i0 (by assumption)) | exact isI.gx (isW.i1 (by assumption)) | exact isI.gc (isW.i1 (by assumption)) | exact isI.gx (isW.i2 (by assumption)) | exact isI.gc (isW.i2 (by assumption)) | exact isI.gx (isW.i3 (by assumption)) | exact isI.gc (isW.i3 (by assumption)) | exact isI.gx (isW.i4 (by assumption)) | exact isI.gc (isW.i4 (by assumption)) | exact isI.gx (isW.i5 (by assumption)) | exact isI.gc (isW.i5 (by assumption)) | exact isR.gx (by assumption) | exact isRd.gx (by assumption) | exact isSp.gx (by assumption) | exact isI.gx (isR.i (by assumption)) | exact isI.gx (isRd.i (by assumption)) | exact isI.gc (isRd.i (by assumption)) | exact isI.gx (isSp.i (by assumption)) | exact isW.gx (isR.w (by assumption)) | exact isW.gF (isR.w (by assumption)) | fail "no such object") (by rfl) ?_
  first | refine rj_alen (pc := 8) dX9_thingsAreFull_8 (by first | assumption | exact isI.gx (by assumption) | exact isI.gc (by assumption) | exact isW.gx (by assumption) | exact isW.gF (by assumption) | exact isW.gT (by assumption) (by omega) | exact isW.gS (by assumption) (by omega) | exact isW.gK (by assumption) (by omega) | exact isW.g1 (by assumption) | exact isW.g2 (by assumption) | exact isW.g3 (by assumption) | exact isI.gx (isW.i0 (by assumption)) | exact isI.gc (isW.i0 (by assumption)) | exact isI.gx (isW.i1 (by assumption)) | exact isI.gc (isW.i1 (by assumption)) | exact isI.gx (isW.i2 (by assumption)) | exact isI.gc (isW.i2 (by assumption)) | exact isI.gx (isW.i3 (by assumption)) | exact isI.gc (isW.i3 (by assumption)) | exact isI.gx (isW.i4 (by assumption)) | exact isI.gc (isW.i4 (by assumption)) | exact isI.gx (isW.i5 (by assumption)) | exact isI.gc (isW.i5 (by assumption)) | exact isR.gx (by assumption) | exact isRd.gx (by assumption) | exact isSp.gx (by assumption) | exact isI.gx (isR.i (by assumption)) | exact isI.gx (isRd.i (by assumption)) | exact isI.gc (isRd.i (by assumption)) | exact isI.gx (isSp.i (by assumption)) | exact isW.gx (isR.w (by assumption)) | exact isW.gF (isR.w (by assumption)) | fail "no such object") ?_ | refine rj_alenR (pc := 8) dX9_thingsAreFull_8 (by first | assumption | exact isI.gx (by assumption) | exact isI.gc (by assumption) | exact isW.gx (by assumption) | exact isW.gF (by assumption) | exact isW.gT (by assumption) (by omega) | exact isW.gS (by assumption) (by omega) | exact isW.gK (by assumption) (by omega) | exact isW.g1 (by assumption) | exact isW.g2 (by assumption) | exact isW.g3 (by assumption) | exact isI.gx (isW.i0 (by assumption)) | exact isI.gc (isW.i0 (by assumption)) | exact isI.gx (isW.i1 (by assumption)) | exact isI.gc (isW.i1 (by assumption)) | exact isI.gx (isW.i2 (by assumption)) | exact isI.gc (isW.i2 (by assumption)) | exact isI.gx (isW.i3 (by assumption)) | exact isI.gc (isW.i3 (by assumption)) | exact isI.gx (isW.i4 (by assumption)) | exact isI.gc (isW.i4 (by assumption)) | exact isI.gx (isW.i5 (by assumption)) | exact isI.gc (isW.i5 (by assumption)) | exact isR.gx (by assumption) | exact isRd.gx (by assumption) | exact isSp.gx (by assumption) | exact isI.gx (isR.i (by assumption)) | exact isI.gx (isRd.i (by assumption)) | exact isI.gc (isRd.i (by assumption)) | exact isI.gx (isSp.i (by assumption)) | exact isW.gx (isR.w (by assumption)) | exact isW.gF (isR.w (by assumption)) | fail "no such object") ?_
  refine rj_icmp_lt (pc := 9) (tgt := 16) dX9_thingsAreFull_9 (by decide) (by first | exact b01_r | exact bz_r | omega | (constructor <;> omega) | apply_assumption | (apply atF_r; assumption) | fail "no range") (by first | exact b01_r | exact bz_r | omega | (constructor <;> omega) | apply_assumption | (apply atF_r; assumption) | fail "no range") (fun c_9 => ?_) (fun c_9 => ?_)
  · refine rj_iconst (pc := 16) dX9_thingsAreFull_16 ?_
    refine r_ireturn (pc := 17) .boolean dX9_thingsAreFull_17 rfl (by first | exact nar_J0 | exact nar_J1 | exact nar_b01 | exact nar_bz) ?_
    first
    | exact ⟨rfl, rfl⟩
    | exact ⟨vf (by omega), rfl⟩
    | exact ⟨vt (by omega), rfl⟩
  · refine rj_iconst (pc := 12) dX9_thingsAreFull_12 ?_
    refine r_goto (pc := 13) (tgt := 17) dX9_thingsAreFull_13 (by decide) ?_
    refine r_ireturn (pc := 17) .boolean dX9_thingsAreFull_17 rfl (by first | exact nar_J0 | exact nar_J1 | exact nar_b01 | exact nar_bz) ?_
    first
    | exact ⟨rfl, rfl⟩
    | exact ⟨vf (by omega), rfl⟩
    | exact ⟨vt (by omega), rfl⟩
set_option maxHeartbeats 4000000 in
set_option maxRecDepth 100000 in
theorem cw_scopesAreFull {G : mG} {l : Launch} (d : Nat) {h : mH} {w : Nat} {c : Nat → Int} {C : Nat → Nat → Int} {nm : Nat → Int64} {g : Nat → Option Nat} (hW : isW h w c C nm g) (hc : ∀ q, InR (c q)) : RUNM G l (d) mX9_scopesAreFull [.ref w] h (fun v h' => v = some (.int (J (b01 (60 ≤ c 1)))) ∧ h' = h) := by
  refine RUNM.of (by decide +kernel) (Nat.le_of_ble_eq_true rfl) ?_
  have r1 := hc 1
  refine r_aload_n (pc := 0) dX9_scopesAreFull_0 rfl (by first | rfl | exact isRefV_rf _) ?_
  refine r_getf (pc := 1) dX9_scopesAreFull_1 fX9_57 (by first | assumption | exact isI.gx (by assumption) | exact isI.gc (by assumption) | exact isW.gx (by assumption) | exact isW.gF (by assumption) | exact isW.gT (by assumption) (by omega) | exact isW.gS (by assumption) (by omega) | exact isW.gK (by assumption) (by omega) | exact isW.g1 (by assumption) | exact isW.g2 (by assumption) | exact isW.g3 (by assumption) | exact isI.gx (isW.i0 (by assumption)) | exact isI.gc (isW.i0 (by assumption)) | exact isI.gx (isW.i1 (by assumption)) | exact isI.gc (isW.i1 (by assumption)) | exact isI.gx (isW.i2 (by assumption)) | exact isI.gc (isW.i2 (by assumption)) | exact isI.gx (isW.i3 (by assumption)) | exact isI.gc (isW.i3 (by assumption)) | exact isI.gx (isW.i4 (by assumption)) | exact isI.gc (isW.i4 (by assumption)) | exact isI.gx (isW.i5 (by assumption)) | exact isI.gc (isW.i5 (by assumption)) | exact isR.gx (by assumption) | exact isRd.gx (by assumption) | exact isSp.gx (by assumption) | exact isI.gx (isR.i (by assumption)) | exact isI.gx (isRd.i (by assumption)) | exact isI.gc (isRd.i (by assumption)) | exact isI.gx (isSp.i (by assumption)) | exact isW.gx (isR.w (by assumption)) | exact isW.gF (isR.w (by assumption)) | fail "no such object") (by rfl) ?_
  refine r_aload_n (pc := 4) dX9_scopesAreFull_4 rfl (by first | rfl | exact isRefV_rf _) ?_
  refine r_getf (pc := 5) dX9_scopesAreFull_5 fX9_19 (by first | assumption | exact isI.gx (by assumption) | exact isI.gc (by assumption) | exact isW.gx (by assumption) | exact isW.gF (by assumption) | exact isW.gT (by assumption) (by omega) | exact isW.gS (by assumption) (by omega) | exact isW.gK (by assumption) (by omega) | exact isW.g1 (by assumption) | exact isW.g2 (by assumption) | exact isW.g3 (by assumption) | exact isI.gx (isW.i0 (by assumption)) | exact isI.gc (isW.i0 (by assumption)) | exact isI.gx (isW.i1 (by assumption)) | exact isI.gc (isW.i1 (by assumption)) | exact isI.gx (isW.i2 (by assumption)) | exact isI.gc (isW.i2 (by assumption)) | exact isI.gx (isW.i3 (by assumption)) | exact isI.gc (isW.i3 (by assumption)) | exact isI.gx (isW.i4 (by assumption)) | exact isI.gc (isW.i4 (by assumption)) | exact isI.gx (isW.i5 (by assumption)) | exact isI.gc (isW.i5 (by assumption)) | exact isR.gx (by assumption) | exact isRd.gx (by assumption) | exact isSp.gx (by assumption) | exact isI.gx (isR.i (by assumption)) | exact isI.gx (isRd.i (by assumption)) | exact isI.gc (isRd.i (by assumption)) | exact isI.gx (isSp.i (by assumption)) | exact isW.gx (isR.w (by assumption)) | exact isW.gF (isR.w (by assumption)) | fail "no such object") (by rfl) ?_
  first | refine rj_alen (pc := 8) dX9_scopesAreFull_8 (by first | assumption | exact isI.gx (by assumption) | exact isI.gc (by assumption) | exact isW.gx (by assumption) | exact isW.gF (by assumption) | exact isW.gT (by assumption) (by omega) | exact isW.gS (by assumption) (by omega) | exact isW.gK (by assumption) (by omega) | exact isW.g1 (by assumption) | exact isW.g2 (by assumption) | exact isW.g3 (by assumption) | exact isI.gx (isW.i0 (by assumption)) | exact isI.gc (isW.i0 (by assumption)) | exact isI.gx (isW.i1 (by assumption)) | exact isI.gc (isW.i1 (by assumption)) | exact isI.gx (isW.i2 (by assumption)) | exact isI.gc (isW.i2 (by assumption)) | exact isI.gx (isW.i3 (by assumption)) | exact isI.gc (isW.i3 (by assumption)) | exact isI.gx (isW.i4 (by assumption)) | exact isI.gc (isW.i4 (by assumption)) | exact isI.gx (isW.i5 (by assumption)) | exact isI.gc (isW.i5 (by assumption)) | exact isR.gx (by assumption) | exact isRd.gx (by assumption) | exact isSp.gx (by assumption) | exact isI.gx (isR.i (by assumption)) | exact isI.gx (isRd.i (by assumption)) | exact isI.gc (isRd.i (by assumption)) | exact isI.gx (isSp.i (by assumption)) | exact isW.gx (isR.w (by assumption)) | exact isW.gF (isR.w (by assumption)) | fail "no such object") ?_ | refine rj_alenR (pc := 8) dX9_scopesAreFull_8 (by first | assumption | exact isI.gx (by assumption) | exact isI.gc (by assumption) | exact isW.gx (by assumption) | exact isW.gF (by assumption) | exact isW.gT (by assumption) (by omega) | exact isW.gS (by assumption) (by omega) | exact isW.gK (by assumption) (by omega) | exact isW.g1 (by assumption) | exact isW.g2 (by assumption) | exact isW.g3 (by assumption) | exact isI.gx (isW.i0 (by assumption)) | exact isI.gc (isW.i0 (by assumption)) | exact isI.gx (isW.i1 (by assumption)) | exact isI.gc (isW.i1 (by assumption)) | exact isI.gx (isW.i2 (by assumption)) | exact isI.gc (isW.i2 (by assumption)) | exact isI.gx (isW.i3 (by assumption)) | exact isI.gc (isW.i3 (by assumption)) | exact isI.gx (isW.i4 (by assumption)) | exact isI.gc (isW.i4 (by assumption)) | exact isI.gx (isW.i5 (by assumption)) | exact isI.gc (isW.i5 (by assumption)) | exact isR.gx (by assumption) | exact isRd.gx (by assumption) | exact isSp.gx (by assumption) | exact isI.gx (isR.i (by assumption)) | exact isI.gx (isRd.i (by assumption)) | exact isI.gc (isRd.i (by assumption)) | exact isI.gx (isSp.i (by assumption)) | exact isW.gx (isR.w (by assumption)) | exact isW.gF (isR.w (by assumption)) | fail "no such object") ?_
  refine rj_icmp_lt (pc := 9) (tgt := 16) dX9_scopesAreFull_9 (by decide) (by first | exact b01_r | exact bz_r | omega | (constructor <;> omega) | apply_assumption | (apply atF_r; assumption) | fail "no range") (by first | exact b01_r | exact bz_r | omega | (constructor <;> omega) | apply_assumption | (apply atF_r; assumption) | fail "no range") (fun c_9 => ?_) (fun c_9 => ?_)
  · refine rj_iconst (pc := 16) dX9_scopesAreFull_16 ?_
    refine r_ireturn (pc := 17) .boolean dX9_scopesAreFull_17 rfl (by first | exact nar_J0 | exact nar_J1 | exact nar_b01 | exact nar_bz) ?_
    first
    | exact ⟨rfl, rfl⟩
    | exact ⟨vf (by omega), rfl⟩
    | exact ⟨vt (by omega), rfl⟩
  · refine rj_iconst (pc := 12) dX9_scopesAreFull_12 ?_
    refine r_goto (pc := 13) (tgt := 17) dX9_scopesAreFull_13 (by decide) ?_
    refine r_ireturn (pc := 17) .boolean dX9_scopesAreFull_17 rfl (by first | exact nar_J0 | exact nar_J1 | exact nar_b01 | exact nar_bz) ?_
    first
    | exact ⟨rfl, rfl⟩
    | exact ⟨vf (by omega), rfl⟩
    | exact ⟨vt (by omega), rfl⟩
set_option maxHeartbeats 4000000 in
set_option maxRecDepth 100000 in
theorem cw_tasksAreFull {G : mG} {l : Launch} (d : Nat) {h : mH} {w : Nat} {c : Nat → Int} {C : Nat → Nat → Int} {nm : Nat → Int64} {g : Nat → Option Nat} (hW : isW h w c C nm g) (hc : ∀ q, InR (c q)) : RUNM G l (d) mX9_tasksAreFull [.ref w] h (fun v h' => v = some (.int (J (b01 (10 ≤ c 2)))) ∧ h' = h) := by
  refine RUNM.of (by decide +kernel) (Nat.le_of_ble_eq_true rfl) ?_
  have r2 := hc 2
  refine r_aload_n (pc := 0) dX9_tasksAreFull_0 rfl (by first | rfl | exact isRefV_rf _) ?_
  refine r_getf (pc := 1) dX9_tasksAreFull_1 fX9_81 (by first | assumption | exact isI.gx (by assumption) | exact isI.gc (by assumption) | exact isW.gx (by assumption) | exact isW.gF (by assumption) | exact isW.gT (by assumption) (by omega) | exact isW.gS (by assumption) (by omega) | exact isW.gK (by assumption) (by omega) | exact isW.g1 (by assumption) | exact isW.g2 (by assumption) | exact isW.g3 (by assumption) | exact isI.gx (isW.i0 (by assumption)) | exact isI.gc (isW.i0 (by assumption)) | exact isI.gx (isW.i1 (by assumption)) | exact isI.gc (isW.i1 (by assumption)) | exact isI.gx (isW.i2 (by assumption)) | exact isI.gc (isW.i2 (by assumption)) | exact isI.gx (isW.i3 (by assumption)) | exact isI.gc (isW.i3 (by assumption)) | exact isI.gx (isW.i4 (by assumption)) | exact isI.gc (isW.i4 (by assumption)) | exact isI.gx (isW.i5 (by assumption)) | exact isI.gc (isW.i5 (by assumption)) | exact isR.gx (by assumption) | exact isRd.gx (by assumption) | exact isSp.gx (by assumption) | exact isI.gx (isR.i (by assumption)) | exact isI.gx (isRd.i (by assumption)) | exact isI.gc (isRd.i (by assumption)) | exact isI.gx (isSp.i (by assumption)) | exact isW.gx (isR.w (by assumption)) | exact isW.gF (isR.w (by assumption)) | fail "no such object") (by rfl) ?_
  refine r_aload_n (pc := 4) dX9_tasksAreFull_4 rfl (by first | rfl | exact isRefV_rf _) ?_
  refine r_getf (pc := 5) dX9_tasksAreFull_5 fX9_25 (by first | assumption | exact isI.gx (by assumption) | exact isI.gc (by assumption) | exact isW.gx (by assumption) | exact isW.gF (by assumption) | exact isW.gT (by assumption) (by omega) | exact isW.gS (by assumption) (by omega) | exact isW.gK (by assumption) (by omega) | exact isW.g1 (by assumption) | exact isW.g2 (by assumption) | exact isW.g3 (by assumption) | exact isI.gx (isW.i0 (by assumption)) | exact isI.gc (isW.i0 (by assumption)) | exact isI.gx (isW.i1 (by assumption)) | exact isI.gc (isW.i1 (by assumption)) | exact isI.gx (isW.i2 (by assumption)) | exact isI.gc (isW.i2 (by assumption)) | exact isI.gx (isW.i3 (by assumption)) | exact isI.gc (isW.i3 (by assumption)) | exact isI.gx (isW.i4 (by assumption)) | exact isI.gc (isW.i4 (by assumption)) | exact isI.gx (isW.i5 (by assumption)) | exact isI.gc (isW.i5 (by assumption)) | exact isR.gx (by assumption) | exact isRd.gx (by assumption) | exact isSp.gx (by assumption) | exact isI.gx (isR.i (by assumption)) | exact isI.gx (isRd.i (by assumption)) | exact isI.gc (isRd.i (by assumption)) | exact isI.gx (isSp.i (by assumption)) | exact isW.gx (isR.w (by assumption)) | exact isW.gF (isR.w (by assumption)) | fail "no such object") (by rfl) ?_
  first | refine rj_alen (pc := 8) dX9_tasksAreFull_8 (by first | assumption | exact isI.gx (by assumption) | exact isI.gc (by assumption) | exact isW.gx (by assumption) | exact isW.gF (by assumption) | exact isW.gT (by assumption) (by omega) | exact isW.gS (by assumption) (by omega) | exact isW.gK (by assumption) (by omega) | exact isW.g1 (by assumption) | exact isW.g2 (by assumption) | exact isW.g3 (by assumption) | exact isI.gx (isW.i0 (by assumption)) | exact isI.gc (isW.i0 (by assumption)) | exact isI.gx (isW.i1 (by assumption)) | exact isI.gc (isW.i1 (by assumption)) | exact isI.gx (isW.i2 (by assumption)) | exact isI.gc (isW.i2 (by assumption)) | exact isI.gx (isW.i3 (by assumption)) | exact isI.gc (isW.i3 (by assumption)) | exact isI.gx (isW.i4 (by assumption)) | exact isI.gc (isW.i4 (by assumption)) | exact isI.gx (isW.i5 (by assumption)) | exact isI.gc (isW.i5 (by assumption)) | exact isR.gx (by assumption) | exact isRd.gx (by assumption) | exact isSp.gx (by assumption) | exact isI.gx (isR.i (by assumption)) | exact isI.gx (isRd.i (by assumption)) | exact isI.gc (isRd.i (by assumption)) | exact isI.gx (isSp.i (by assumption)) | exact isW.gx (isR.w (by assumption)) | exact isW.gF (isR.w (by assumption)) | fail "no such object") ?_ | refine rj_alenR (pc := 8) dX9_tasksAreFull_8 (by first | assumption | exact isI.gx (by assumption) | exact isI.gc (by assumption) | exact isW.gx (by assumption) | exact isW.gF (by assumption) | exact isW.gT (by assumption) (by omega) | exact isW.gS (by assumption) (by omega) | exact isW.gK (by assumption) (by omega) | exact isW.g1 (by assumption) | exact isW.g2 (by assumption) | exact isW.g3 (by assumption) | exact isI.gx (isW.i0 (by assumption)) | exact isI.gc (isW.i0 (by assumption)) | exact isI.gx (isW.i1 (by assumption)) | exact isI.gc (isW.i1 (by assumption)) | exact isI.gx (isW.i2 (by assumption)) | exact isI.gc (isW.i2 (by assumption)) | exact isI.gx (isW.i3 (by assumption)) | exact isI.gc (isW.i3 (by assumption)) | exact isI.gx (isW.i4 (by assumption)) | exact isI.gc (isW.i4 (by assumption)) | exact isI.gx (isW.i5 (by assumption)) | exact isI.gc (isW.i5 (by assumption)) | exact isR.gx (by assumption) | exact isRd.gx (by assumption) | exact isSp.gx (by assumption) | exact isI.gx (isR.i (by assumption)) | exact isI.gx (isRd.i (by assumption)) | exact isI.gc (isRd.i (by assumption)) | exact isI.gx (isSp.i (by assumption)) | exact isW.gx (isR.w (by assumption)) | exact isW.gF (isR.w (by assumption)) | fail "no such object") ?_
  refine rj_icmp_lt (pc := 9) (tgt := 16) dX9_tasksAreFull_9 (by decide) (by first | exact b01_r | exact bz_r | omega | (constructor <;> omega) | apply_assumption | (apply atF_r; assumption) | fail "no range") (by first | exact b01_r | exact bz_r | omega | (constructor <;> omega) | apply_assumption | (apply atF_r; assumption) | fail "no range") (fun c_9 => ?_) (fun c_9 => ?_)
  · refine rj_iconst (pc := 16) dX9_tasksAreFull_16 ?_
    refine r_ireturn (pc := 17) .boolean dX9_tasksAreFull_17 rfl (by first | exact nar_J0 | exact nar_J1 | exact nar_b01 | exact nar_bz) ?_
    first
    | exact ⟨rfl, rfl⟩
    | exact ⟨vf (by omega), rfl⟩
    | exact ⟨vt (by omega), rfl⟩
  · refine rj_iconst (pc := 12) dX9_tasksAreFull_12 ?_
    refine r_goto (pc := 13) (tgt := 17) dX9_tasksAreFull_13 (by decide) ?_
    refine r_ireturn (pc := 17) .boolean dX9_tasksAreFull_17 rfl (by first | exact nar_J0 | exact nar_J1 | exact nar_b01 | exact nar_bz) ?_
    first
    | exact ⟨rfl, rfl⟩
    | exact ⟨vf (by omega), rfl⟩
    | exact ⟨vt (by omega), rfl⟩
end mg_52
section mg_53
/-! ===== the class's constructors ===== -/
section RG
variable {G : mG} {l : Launch} {d : Nat} {M : mM} {pc : Nat} {ls : List (Option Value)} {st : List Value} {h : mH} {Q : Option Value → mH → Prop}
theorem rg_newC {index ci N z : Nat} {fs : List Value} (hdg : decode M.2.1 pc = .ok (.new index, 3)) (hc : mNewC M.1.cls index ci N fs) (hz : h.2.1 = z)
    (K : ∀ h1, hGet h1 z = some (.inl (ci, fs)) → onlyAt z h h1 → h1.1 = h.1 → h1.2.1 = z + 1 → h1.2.2.1 = h.2.2.1 + N → RUN G l d M (pc + 3) ls (.ref z :: st) h1 Q) : RUN G l d M pc ls st h Q := by
  subst hz
  exact r_newC hdg hc (K _ hGet_new_self (fun b hb => hGet_new_ne hb rfl) rfl rfl rfl)
theorem rg_newaR {n : Int} {index t z : Nat} {C : String} (hdg : decode M.2.1 pc = .ok (.anewarray index, 3)) (hG : G.2.map Prod.snd = mTy) (hty : mTy[t]? = some (.object C)) (hw1 : Cond.classLink M.1.cls index C ∈ lw_use) (hw2 : Cond.arrayOver (.object C) ∈ lw_use) (hz : h.2.1 = z) (hn : 0 ≤ n) (hm : n < 100000)
    (K : ∀ h1, hGet h1 z = some (.inr (.inr (t, n.toNat, fun _ => none))) → onlyAt z h h1 → h1.1 = h.1 → h1.2.1 = z + 1 → h1.2.2.1 = h.2.2.1 + n.toNat → RUN G l d M (pc + 3) ls (.ref z :: st) h1 Q) : RUN G l d M pc ls (.int (J n) :: st) h Q := by
  subst hz
  exact r_newaR hdg hG hty hw1 hw2 (by rw [J_0, J_lt ⟨by omega, by omega⟩ ⟨by decide, by decide⟩]; omega) (J_cl hn ⟨by omega, by omega⟩) (by omega) (K _ hGet_new_self (fun b hb => hGet_new_ne hb rfl) rfl rfl rfl)
theorem rg_aast {a t n ci v : Nat} {f : Nat → Option Nat} {i : Int} {r : vw_C} {vs : List Value} (hdg : decode M.2.1 pc = .ok (.aastore, 1)) (ho : hGet h a = some (.inr (.inr (t, n, f)))) (hov : hGet h v = some (.inl (ci, vs))) (hc : vwCl[ci]? = some r) (hG : G.2.map Prod.snd = mTy) (hty : mTy[t]? = some (.object r.1)) (hlo : h.1 ≤ a) (hr : InR i) (h0 : 0 ≤ i) (h1 : i < n)
    (K : ∀ h1, hGet h1 a = some (.inr (.inr (t, n, va_up f i.toNat (some v)))) → onlyAt a h h1 → h1.1 = h.1 → h1.2.1 = h.2.1 → h1.2.2.1 = h.2.2.1 → RUN G l d M (pc + 1) ls st h1 Q) : RUN G l d M pc ls (.ref v :: .int (J i) :: .ref a :: st) h Q :=
  r_aast hdg ho hov hc hG hty hlo (J_in hr h0 h1) (by rw [J_cl h0 hr]; exact rg_gen K)
end RG
def Grow (a : Nat) (h h' : mH) : Prop := ∀ b, b < a → hGet h' b = hGet h b
theorem fill_s (a i : Nat) : va_up (fun q => if q < i then some (a + q) else none) i (some (a + i)) = fun q => if q < i + 1 then some (a + q) else none := by
  funext q
  show (if q = i then some (a + i) else if q < i then some (a + q) else none) = if q < i + 1 then some (a + q) else none
  repeat' split
  all_goals first | rfl | (exfalso; omega) | (subst_vars; rfl)
theorem fill_0 (a : Nat) : (fun _ => none : Nat → Option Nat) = fun q => if q < 0 then some (a + q) else none := by
  funext q
  simp
theorem ad_ne {a i j : Nat} (h : i ≠ j) : a + i ≠ a + j := by omega
theorem ad_lt {a i j : Nat} (h : i < j) : a + i < a + j := by omega
theorem b_ne {a b j : Nat} (h : b < a) : b ≠ a + j := by omega
theorem b_lt {a b j : Nat} (h : b < a) : b < a + j := by omega
theorem ad_ne0 {a i : Nat} (h : 0 < i) : a + i ≠ a := by omega
theorem ad_0ne {a j : Nat} (h : 0 < j) : a ≠ a + j := by omega
theorem ad_0lt {a j : Nat} (h : 0 < j) : a < a + j := by omega
theorem sl_add {A B C x y : Nat} (h1 : A = B + x) (h2 : B = C + y) : A = C + (y + x) := by omega
theorem sl_0 {A : Nat} : A = A + 0 := rfl
set_option maxHeartbeats 4000000 in
set_option maxRecDepth 100000 in
theorem ki_init {G : mG} {l : Launch} (d : Nat) (hG : G.2.map Prod.snd = mTy) {h : mH} {a : Nat} {N : Nat} (hN : N ≤ 1000) (hx : hGet h a = some (.inl (1, [.null, .int 0]))) (hlo : h.1 ≤ a) (hn : h.2.1 = a + 1) : RUNM G l (d + 1) mX1_init [.ref a, .int (J (N : Int))] h (fun v h' => v = none ∧ isI h' a N 0 (fun _ => 0) ∧ Grow a h h' ∧ h'.1 = h.1 ∧ h'.2.1 = a + 2 ∧ h'.2.2.1 = h.2.2.1 + N) := by
  refine RUNM.of (by decide +kernel) (Nat.le_of_ble_eq_true rfl) ?_
  refine r_aload_n (pc := 0) dX1_init_0 rfl rfl ?_
  refine r_objInit (pc := 1) dX1_init_1 kX1_1 (Nat.le_of_ble_eq_true rfl) ?_
  refine r_aload_n (pc := 4) dX1_init_4 rfl rfl ?_
  refine r_iload_n (pc := 5) dX1_init_5 rfl ?_
  refine rj_if_ge (pc := 6) (tgt := 13) dX1_init_6 (by decide) ⟨by omega, by omega⟩ (fun c_6 => ?_) (fun c_6 => absurd (Int.natCast_nonneg N) c_6)
  refine r_iload_n (pc := 13) dX1_init_13 rfl ?_
  refine rg_newaI (pc := 14) (z := a + 1) dX1_init_14 hG hn (by omega) (by omega) (fun h_14 o_14 s_14 l_14 n_14 k_14 => ?_)
  have k_14 : h_14.2.2.1 = h.2.2.1 + (0 + N) := sl_add k_14 sl_0
  refine r_putF (pc := 16) dX1_init_16 fX1_7 ⟨_, rfl, rfl⟩ rfl ((s_14 a (ad_0ne (j := 1) (by decide))).trans hx) (Nat.le_trans (Nat.le_of_eq l_14) hlo) rfl rfl (Nat.le_of_ble_eq_true rfl) ?_
  refine rg_gen (fun h_16 o_16 s_16 l_16 n_16 k_16 => ?_)
  dsimp only [List.set] at o_16
  have n_16 := n_16.trans n_14
  have l_16 := l_16.trans l_14
  have k_16 : h_16.2.2.1 = h.2.2.1 + (0 + N) := k_16.trans k_14
  refine r_return (pc := 19) dX1_init_19 rfl ?_
  refine ⟨rfl, ⟨(Nat.le_trans (Nat.le_of_eq l_16) hlo), ?_, ?_⟩, fun b hb => ((s_16 b (Nat.ne_of_lt hb)).trans ((s_14 b (b_ne (j := 1) hb)).trans rfl)), l_16, n_16, (by have y := k_16; omega)⟩
  · have y := o_16; rw [J_0] at y; exact y
  · have y := ((s_16 (a + 1) (ad_ne0 (i := 1) (by decide))).trans o_14); exact y
set_option maxHeartbeats 4000000 in
set_option maxRecDepth 100000 in
theorem k_X8 {G : mG} {l : Launch} (d : Nat) {h : mH} {a : Nat} : RUNM G l (d + 1) mX8_init [.ref a] h (fun v h' => v = none ∧ h' = h) := by
  refine RUNM.of (by decide +kernel) (Nat.le_of_ble_eq_true rfl) ?_
  refine r_aload_n (pc := 0) dX8_init_0 rfl (by first | rfl | exact isRefV_rf _) ?_
  refine r_objInit (pc := 1) dX8_init_1 kX8_1 (Nat.le_of_ble_eq_true rfl) ?_
  refine r_return (pc := 4) dX8_init_4 rfl ?_
  exact ⟨rfl, rfl⟩
set_option maxHeartbeats 4000000 in
set_option maxRecDepth 100000 in
theorem k_X4 {G : mG} {l : Launch} (d : Nat) {h : mH} {a : Nat} : RUNM G l (d + 1) mX4_init [.ref a] h (fun v h' => v = none ∧ h' = h) := by
  refine RUNM.of (by decide +kernel) (Nat.le_of_ble_eq_true rfl) ?_
  refine r_aload_n (pc := 0) dX4_init_0 rfl (by first | rfl | exact isRefV_rf _) ?_
  refine r_objInit (pc := 1) dX4_init_1 kX4_1 (Nat.le_of_ble_eq_true rfl) ?_
  refine r_return (pc := 4) dX4_init_4 rfl ?_
  exact ⟨rfl, rfl⟩
set_option maxHeartbeats 4000000 in
set_option maxRecDepth 100000 in
theorem k_X7 {G : mG} {l : Launch} (d : Nat) {h : mH} {a : Nat} : RUNM G l (d + 1) mX7_init [.ref a] h (fun v h' => v = none ∧ h' = h) := by
  refine RUNM.of (by decide +kernel) (Nat.le_of_ble_eq_true rfl) ?_
  refine r_aload_n (pc := 0) dX7_init_0 rfl (by first | rfl | exact isRefV_rf _) ?_
  refine r_objInit (pc := 1) dX7_init_1 kX7_3 (Nat.le_of_ble_eq_true rfl) ?_
  refine r_return (pc := 4) dX7_init_4 rfl ?_
  exact ⟨rfl, rfl⟩
def zFa (h : mH) (a : Nat) : Prop := hGet h a = some (.inl (0, [.ref (a + 1), .ref (a + 3), .ref (a + 5), .int 0])) ∧ isI h (a + 1) 90 0 (fun _ => 0) ∧ isI h (a + 3) 90 0 (fun _ => 0) ∧ isI h (a + 5) 90 0 (fun _ => 0)
set_option maxHeartbeats 4000000 in
set_option maxRecDepth 100000 in
theorem k_X0 {G : mG} {l : Launch} (d : Nat) (hG : G.2.map Prod.snd = mTy) {h : mH} {a : Nat} (hx : hGet h a = some (.inl (0, [.null, .null, .null, .int 0]))) (hlo : h.1 ≤ a) (hn : h.2.1 = a + 1) : RUNM G l (d + 2) mX0_init [.ref a] h (fun v h' => v = none ∧ zFa h' a ∧ Grow a h h' ∧ h'.1 = h.1 ∧ h'.2.1 = a + 7 ∧ h'.2.2.1 = h.2.2.1 + 276) := by
  refine RUNM.of (by decide +kernel) (Nat.le_of_ble_eq_true rfl) ?_
  refine r_aload_n (pc := 0) dX0_init_0 rfl rfl ?_
  refine r_objInit (pc := 1) dX0_init_1 kX0_3 (Nat.le_of_ble_eq_true rfl) ?_
  refine r_aload_n (pc := 4) dX0_init_4 rfl rfl ?_
  refine rg_newC (pc := 5) (z := a + 1) dX0_init_5 cX0_9 hn (fun h_5 o_5 s_5 l_5 n_5 k_5 => ?_)
  have k_5 : h_5.2.2.1 = h.2.2.1 + (2) := sl_add k_5 sl_0
  refine r_dup (pc := 8) dX0_init_8 rfl ?_
  refine rj_bipush (pc := 9) dX0_init_9 (by decide +kernel) ?_
  refine r_callI1 (pc := 11) dX0_init_11 qX1_init rfl kX0_11 rfl iX1_init (Nat.le_of_ble_eq_true rfl) (ki_init _ hG (N := 90) (by decide) o_5 (Nat.le_trans (Nat.le_trans (Nat.le_of_eq l_5) hlo) (Nat.le_add_right _ _)) n_5) (fun v_11 h_11 q_11 => ?_)
  obtain ⟨rfl, F_11, s_11, l_11, n_11, k_11⟩ := q_11
  have l_11 := l_11.trans l_5
  have k_11 : h_11.2.2.1 = h.2.2.1 + (92) := sl_add k_11 k_5
  refine r_putF (pc := 14) dX0_init_14 fX0_14 ⟨_, rfl, rfl⟩ rfl ((s_11 a (ad_0lt (j := 1) (by decide))).trans ((s_5 a (ad_0ne (j := 1) (by decide))).trans hx)) (Nat.le_trans (Nat.le_of_eq l_11) hlo) rfl rfl (Nat.le_of_ble_eq_true rfl) ?_
  refine rg_gen (fun h_14 o_14 s_14 l_14 n_14 k_14 => ?_)
  dsimp only [List.set] at o_14
  have n_14 := n_14.trans n_11
  have l_14 := l_14.trans l_11
  have k_14 : h_14.2.2.1 = h.2.2.1 + (92) := k_14.trans k_11
  refine r_aload_n (pc := 17) dX0_init_17 rfl rfl ?_
  refine rg_newC (pc := 18) (z := a + 3) dX0_init_18 cX0_9 n_14 (fun h_18 o_18 s_18 l_18 n_18 k_18 => ?_)
  have l_18 := l_18.trans l_14
  have k_18 : h_18.2.2.1 = h.2.2.1 + (94) := sl_add k_18 k_14
  refine r_dup (pc := 21) dX0_init_21 rfl ?_
  refine rj_bipush (pc := 22) dX0_init_22 (by decide +kernel) ?_
  refine r_callI1 (pc := 24) dX0_init_24 qX1_init rfl kX0_11 rfl iX1_init (Nat.le_of_ble_eq_true rfl) (ki_init _ hG (N := 90) (by decide) o_18 (Nat.le_trans (Nat.le_trans (Nat.le_of_eq l_18) hlo) (Nat.le_add_right _ _)) n_18) (fun v_24 h_24 q_24 => ?_)
  obtain ⟨rfl, F_24, s_24, l_24, n_24, k_24⟩ := q_24
  have l_24 := l_24.trans l_18
  have k_24 : h_24.2.2.1 = h.2.2.1 + (184) := sl_add k_24 k_18
  refine r_putF (pc := 27) dX0_init_27 fX0_20 ⟨_, rfl, rfl⟩ rfl ((s_24 a (ad_0lt (j := 3) (by decide))).trans ((s_18 a (ad_0ne (j := 3) (by decide))).trans o_14)) (Nat.le_trans (Nat.le_of_eq l_24) hlo) rfl rfl (Nat.le_of_ble_eq_true rfl) ?_
  refine rg_gen (fun h_27 o_27 s_27 l_27 n_27 k_27 => ?_)
  dsimp only [List.set] at o_27
  have n_27 := n_27.trans n_24
  have l_27 := l_27.trans l_24
  have k_27 : h_27.2.2.1 = h.2.2.1 + (184) := k_27.trans k_24
  refine r_aload_n (pc := 30) dX0_init_30 rfl rfl ?_
  refine rg_newC (pc := 31) (z := a + 5) dX0_init_31 cX0_9 n_27 (fun h_31 o_31 s_31 l_31 n_31 k_31 => ?_)
  have l_31 := l_31.trans l_27
  have k_31 : h_31.2.2.1 = h.2.2.1 + (186) := sl_add k_31 k_27
  refine r_dup (pc := 34) dX0_init_34 rfl ?_
  refine rj_bipush (pc := 35) dX0_init_35 (by decide +kernel) ?_
  refine r_callI1 (pc := 37) dX0_init_37 qX1_init rfl kX0_11 rfl iX1_init (Nat.le_of_ble_eq_true rfl) (ki_init _ hG (N := 90) (by decide) o_31 (Nat.le_trans (Nat.le_trans (Nat.le_of_eq l_31) hlo) (Nat.le_add_right _ _)) n_31) (fun v_37 h_37 q_37 => ?_)
  obtain ⟨rfl, F_37, s_37, l_37, n_37, k_37⟩ := q_37
  have l_37 := l_37.trans l_31
  have k_37 : h_37.2.2.1 = h.2.2.1 + (276) := sl_add k_37 k_31
  refine r_putF (pc := 40) dX0_init_40 fX0_23 ⟨_, rfl, rfl⟩ rfl ((s_37 a (ad_0lt (j := 5) (by decide))).trans ((s_31 a (ad_0ne (j := 5) (by decide))).trans o_27)) (Nat.le_trans (Nat.le_of_eq l_37) hlo) rfl rfl (Nat.le_of_ble_eq_true rfl) ?_
  refine rg_gen (fun h_40 o_40 s_40 l_40 n_40 k_40 => ?_)
  dsimp only [List.set] at o_40
  have n_40 := n_40.trans n_37
  have l_40 := l_40.trans l_37
  have k_40 : h_40.2.2.1 = h.2.2.1 + (276) := k_40.trans k_37
  refine r_return (pc := 43) dX0_init_43 rfl ?_
  refine ⟨rfl, ⟨o_40, ⟨(Nat.le_trans (Nat.le_trans (Nat.le_of_eq l_40) hlo) (Nat.le_add_right _ _)), ((s_40 (a + 1) (ad_ne0 (i := 1) (by decide))).trans ((s_37 (a + 1) (ad_lt (i := 1) (j := 5) (by decide))).trans ((s_31 (a + 1) (ad_ne (i := 1) (j := 5) (by decide))).trans ((s_27 (a + 1) (ad_ne0 (i := 1) (by decide))).trans ((s_24 (a + 1) (ad_lt (i := 1) (j := 3) (by decide))).trans ((s_18 (a + 1) (ad_ne (i := 1) (j := 3) (by decide))).trans ((s_14 (a + 1) (ad_ne0 (i := 1) (by decide))).trans F_11.gx))))))), ((s_40 (a + 2) (ad_ne0 (i := 2) (by decide))).trans ((s_37 (a + 2) (ad_lt (i := 2) (j := 5) (by decide))).trans ((s_31 (a + 2) (ad_ne (i := 2) (j := 5) (by decide))).trans ((s_27 (a + 2) (ad_ne0 (i := 2) (by decide))).trans ((s_24 (a + 2) (ad_lt (i := 2) (j := 3) (by decide))).trans ((s_18 (a + 2) (ad_ne (i := 2) (j := 3) (by decide))).trans ((s_14 (a + 2) (ad_ne0 (i := 2) (by decide))).trans F_11.gc)))))))⟩, ⟨(Nat.le_trans (Nat.le_trans (Nat.le_of_eq l_40) hlo) (Nat.le_add_right _ _)), ((s_40 (a + 3) (ad_ne0 (i := 3) (by decide))).trans ((s_37 (a + 3) (ad_lt (i := 3) (j := 5) (by decide))).trans ((s_31 (a + 3) (ad_ne (i := 3) (j := 5) (by decide))).trans ((s_27 (a + 3) (ad_ne0 (i := 3) (by decide))).trans F_24.gx)))), ((s_40 (a + 4) (ad_ne0 (i := 4) (by decide))).trans ((s_37 (a + 4) (ad_lt (i := 4) (j := 5) (by decide))).trans ((s_31 (a + 4) (ad_ne (i := 4) (j := 5) (by decide))).trans ((s_27 (a + 4) (ad_ne0 (i := 4) (by decide))).trans F_24.gc))))⟩, ⟨(Nat.le_trans (Nat.le_trans (Nat.le_of_eq l_40) hlo) (Nat.le_add_right _ _)), ((s_40 (a + 5) (ad_ne0 (i := 5) (by decide))).trans F_37.gx), ((s_40 (a + 6) (ad_ne0 (i := 6) (by decide))).trans F_37.gc)⟩⟩, fun b hb => ((s_40 b (Nat.ne_of_lt hb)).trans ((s_37 b (b_lt (j := 5) hb)).trans ((s_31 b (b_ne (j := 5) hb)).trans ((s_27 b (Nat.ne_of_lt hb)).trans ((s_24 b (b_lt (j := 3) hb)).trans ((s_18 b (b_ne (j := 3) hb)).trans ((s_14 b (Nat.ne_of_lt hb)).trans ((s_11 b (b_lt (j := 1) hb)).trans ((s_5 b (b_ne (j := 1) hb)).trans rfl))))))))), l_40, n_40, k_40⟩
set_option maxHeartbeats 4000000 in
set_option maxRecDepth 100000 in
theorem k_X2 {G : mG} {l : Launch} (d : Nat) (hG : G.2.map Prod.snd = mTy) {h : mH} {a : Nat} (hx : hGet h a = some (.inl (2, [.null, .int 0, .int 0, .int 0]))) (hlo : h.1 ≤ a) (hn : h.2.1 = a + 1) : RUNM G l (d + 2) mX2_init [.ref a] h (fun v h' => v = none ∧ isRd h' a 0 0 0 0 (fun _ => 0) ∧ Grow a h h' ∧ h'.1 = h.1 ∧ h'.2.1 = a + 3 ∧ h'.2.2.1 = h.2.2.1 + 122) := by
  refine RUNM.of (by decide +kernel) (Nat.le_of_ble_eq_true rfl) ?_
  refine r_aload_n (pc := 0) dX2_init_0 rfl rfl ?_
  refine r_objInit (pc := 1) dX2_init_1 kX2_3 (Nat.le_of_ble_eq_true rfl) ?_
  refine r_aload_n (pc := 4) dX2_init_4 rfl rfl ?_
  refine rg_newC (pc := 5) (z := a + 1) dX2_init_5 cX2_9 hn (fun h_5 o_5 s_5 l_5 n_5 k_5 => ?_)
  have k_5 : h_5.2.2.1 = h.2.2.1 + (2) := sl_add k_5 sl_0
  refine r_dup (pc := 8) dX2_init_8 rfl ?_
  refine rj_bipush (pc := 9) dX2_init_9 (by decide +kernel) ?_
  refine r_callI1 (pc := 11) dX2_init_11 qX1_init rfl kX2_11 rfl iX1_init (Nat.le_of_ble_eq_true rfl) (ki_init _ hG (N := 120) (by decide) o_5 (Nat.le_trans (Nat.le_trans (Nat.le_of_eq l_5) hlo) (Nat.le_add_right _ _)) n_5) (fun v_11 h_11 q_11 => ?_)
  obtain ⟨rfl, F_11, s_11, l_11, n_11, k_11⟩ := q_11
  have l_11 := l_11.trans l_5
  have k_11 : h_11.2.2.1 = h.2.2.1 + (122) := sl_add k_11 k_5
  refine r_putF (pc := 14) dX2_init_14 fX2_14 ⟨_, rfl, rfl⟩ rfl ((s_11 a (ad_0lt (j := 1) (by decide))).trans ((s_5 a (ad_0ne (j := 1) (by decide))).trans hx)) (Nat.le_trans (Nat.le_of_eq l_11) hlo) rfl rfl (Nat.le_of_ble_eq_true rfl) ?_
  refine rg_gen (fun h_14 o_14 s_14 l_14 n_14 k_14 => ?_)
  dsimp only [List.set] at o_14
  have n_14 := n_14.trans n_11
  have l_14 := l_14.trans l_11
  have k_14 : h_14.2.2.1 = h.2.2.1 + (122) := k_14.trans k_11
  refine r_return (pc := 17) dX2_init_17 rfl ?_
  have y := o_14
  try rw [J_0] at y
  exact ⟨rfl, ⟨(Nat.le_trans (Nat.le_of_eq l_14) hlo), y, ⟨(Nat.le_trans (Nat.le_trans (Nat.le_of_eq l_14) hlo) (Nat.le_add_right _ _)), ((s_14 (a + 1) (ad_ne0 (i := 1) (by decide))).trans F_11.gx), ((s_14 (a + 2) (ad_ne0 (i := 2) (by decide))).trans F_11.gc)⟩⟩, fun b hb => ((s_14 b (Nat.ne_of_lt hb)).trans ((s_11 b (b_lt (j := 1) hb)).trans ((s_5 b (b_ne (j := 1) hb)).trans rfl))), l_14, n_14, k_14⟩
set_option maxHeartbeats 4000000 in
set_option maxRecDepth 100000 in
theorem k_X5 {G : mG} {l : Launch} (d : Nat) (hG : G.2.map Prod.snd = mTy) {h : mH} {a : Nat} (hx : hGet h a = some (.inl (5, [.null]))) (hlo : h.1 ≤ a) (hn : h.2.1 = a + 1) : RUNM G l (d + 2) mX5_init [.ref a] h (fun v h' => v = none ∧ isSp h' a 0 (fun _ => 0) ∧ Grow a h h' ∧ h'.1 = h.1 ∧ h'.2.1 = a + 3 ∧ h'.2.2.1 = h.2.2.1 + 122) := by
  refine RUNM.of (by decide +kernel) (Nat.le_of_ble_eq_true rfl) ?_
  refine r_aload_n (pc := 0) dX5_init_0 rfl rfl ?_
  refine r_objInit (pc := 1) dX5_init_1 kX5_3 (Nat.le_of_ble_eq_true rfl) ?_
  refine r_aload_n (pc := 4) dX5_init_4 rfl rfl ?_
  refine rg_newC (pc := 5) (z := a + 1) dX5_init_5 cX5_9 hn (fun h_5 o_5 s_5 l_5 n_5 k_5 => ?_)
  have k_5 : h_5.2.2.1 = h.2.2.1 + (2) := sl_add k_5 sl_0
  refine r_dup (pc := 8) dX5_init_8 rfl ?_
  refine rj_bipush (pc := 9) dX5_init_9 (by decide +kernel) ?_
  refine r_callI1 (pc := 11) dX5_init_11 qX1_init rfl kX5_11 rfl iX1_init (Nat.le_of_ble_eq_true rfl) (ki_init _ hG (N := 120) (by decide) o_5 (Nat.le_trans (Nat.le_trans (Nat.le_of_eq l_5) hlo) (Nat.le_add_right _ _)) n_5) (fun v_11 h_11 q_11 => ?_)
  obtain ⟨rfl, F_11, s_11, l_11, n_11, k_11⟩ := q_11
  have l_11 := l_11.trans l_5
  have k_11 : h_11.2.2.1 = h.2.2.1 + (122) := sl_add k_11 k_5
  refine r_putF (pc := 14) dX5_init_14 fX5_14 ⟨_, rfl, rfl⟩ rfl ((s_11 a (ad_0lt (j := 1) (by decide))).trans ((s_5 a (ad_0ne (j := 1) (by decide))).trans hx)) (Nat.le_trans (Nat.le_of_eq l_11) hlo) rfl rfl (Nat.le_of_ble_eq_true rfl) ?_
  refine rg_gen (fun h_14 o_14 s_14 l_14 n_14 k_14 => ?_)
  dsimp only [List.set] at o_14
  have n_14 := n_14.trans n_11
  have l_14 := l_14.trans l_11
  have k_14 : h_14.2.2.1 = h.2.2.1 + (122) := k_14.trans k_11
  refine r_return (pc := 17) dX5_init_17 rfl ?_
  have y := o_14
  try rw [J_0] at y
  exact ⟨rfl, ⟨(Nat.le_trans (Nat.le_of_eq l_14) hlo), y, ⟨(Nat.le_trans (Nat.le_trans (Nat.le_of_eq l_14) hlo) (Nat.le_add_right _ _)), ((s_14 (a + 1) (ad_ne0 (i := 1) (by decide))).trans F_11.gx), ((s_14 (a + 2) (ad_ne0 (i := 2) (by decide))).trans F_11.gc)⟩⟩, fun b hb => ((s_14 b (Nat.ne_of_lt hb)).trans ((s_11 b (b_lt (j := 1) hb)).trans ((s_5 b (b_ne (j := 1) hb)).trans rfl))), l_14, n_14, k_14⟩
end mg_53
section mg_54
/-! ===== the class's constructors: a World, a Runner, the keeper ===== -/
set_option maxHeartbeats 4000000 in
set_option maxRecDepth 100000 in
theorem L_fillT {G : mG} {l : Launch} (d : Nat) (hG : G.2.map Prod.snd = mTy) {w : Nat} {fs : List Value} (hfs : fs[0]? = some (.ref (w + 1))) {Q : Option Value → mH → Prop} : ∀ (k i : Nat) (h : mH), i + k = 90 → hGet h w = some (.inl (9, fs)) → hGet h (w + 1) = some (.inr (.inr (2, 90, (fun q => if q < i then some (w + 17 + q) else none)))) → h.1 ≤ w → h.2.1 = w + 17 + i →
    (∀ h', (∀ b, b < w + 17 + i → b ≠ w + 1 → hGet h' b = hGet h b) → hGet h' (w + 1) = some (.inr (.inr (2, 90, (fun q => if q < 90 then some (w + 17 + q) else none)))) → (∀ q, i ≤ q → q < 90 → hGet h' (w + 17 + q) = some (.inl (8, [.long 0, .null, .null, .int 0, .int 0, .int 0]))) → h'.1 = h.1 → h'.2.1 = w + 17 + 90 → h'.2.2.1 = h.2.2.1 + 6 * k → RUN G l (d + 2) mX9_init 112 [some (.ref w), some (.int (J (90 : Int)))] [] h' Q) →
    RUN G l (d + 2) mX9_init 84 [some (.ref w), some (.int (J (i : Int)))] [] h Q := by
  intro k
  induction k with
  | zero =>
    intro i h hi hx ha hlo hn K
    obtain rfl : i = 90 := by omega
    refine r_iload_n (pc := 84) dX9_init_84 rfl ?_
    refine r_aload_n (pc := 85) dX9_init_85 rfl rfl ?_
    refine r_getf (pc := 86) dX9_init_86 fX9_11 hx hfs ?_
    refine rj_alenR (pc := 89) dX9_init_89 ha ?_
    refine rj_icmp_ge (pc := 90) (tgt := 112) dX9_init_90 (by decide) ⟨by omega, by omega⟩ ⟨by omega, by omega⟩ (fun c1 => ?_) (fun c1 => absurd (Int.le_refl _) c1)
    exact K h (fun b _ _ => rfl) ha (fun q h1 h2 => by omega) rfl hn (by omega)
  | succ k ih =>
    intro i h hi hx ha hlo hn K
    refine r_iload_n (pc := 84) dX9_init_84 rfl ?_
    refine r_aload_n (pc := 85) dX9_init_85 rfl rfl ?_
    refine r_getf (pc := 86) dX9_init_86 fX9_11 hx hfs ?_
    refine rj_alenR (pc := 89) dX9_init_89 ha ?_
    refine rj_icmp_ge (pc := 90) (tgt := 112) dX9_init_90 (by decide) ⟨by omega, by omega⟩ ⟨by omega, by omega⟩ (fun c1 => ?_) (fun c1 => ?_)
    · exfalso; omega
    refine r_aload_n (pc := 93) dX9_init_93 rfl rfl ?_
    refine r_getf (pc := 94) dX9_init_94 fX9_11 hx hfs ?_
    refine r_iload_n (pc := 97) dX9_init_97 rfl ?_
    refine rg_newC (pc := 98) (z := w + 17 + i) dX9_init_98 cX9_9 hn (fun h1 o1 s1 l1 n1 k1 => ?_)
    refine r_dup (pc := 101) dX9_init_101 rfl ?_
    refine r_callI0 (pc := 102) dX9_init_102 qX8_init rfl kX9_51 rfl iX8_init (Nat.le_of_ble_eq_true rfl) (k_X8 d) (fun v2 h2 q2 => ?_)
    obtain ⟨rfl, rfl⟩ := q2
    refine rg_aast (pc := 105) dX9_init_105 ((s1 (w + 1) (by omega)).trans ha) o1 rfl hG rfl (by omega) ⟨by omega, by omega⟩ (by omega) (by omega) (fun h3 o3 s3 l3 n3 k3 => ?_)
    rw [show ((i : Int)).toNat = i by omega, fill_s] at o3
    refine rj_iinc (pc := 106) dX9_init_106 (Nat.le_of_ble_eq_true rfl) rfl ?_
    dsimp only [lsSt, List.set, mLs, mEnt]
    refine r_goto (pc := 109) (tgt := 84) dX9_init_109 (by decide) ?_
    refine ih (i + 1) h3 (by omega) ((s3 w (by omega)).trans ((s1 w (by omega)).trans hx)) o3 (by omega) (by omega) (fun h' g1 g2 g3 g4 g5 g6 => ?_)
    refine K h' (fun b b1 b2 => (g1 b (by omega) b2).trans ((s3 b b2).trans (s1 b (by omega)))) g2 (fun q q1 q2 => ?_) (by omega) g5 (by omega)
    by_cases e : q = i
    · subst e
      exact (g1 _ (by omega) (by omega)).trans ((s3 _ (by omega)).trans o1)
    · exact g3 q (by omega) q2
set_option maxHeartbeats 4000000 in
set_option maxRecDepth 100000 in
theorem L_fillS {G : mG} {l : Launch} (d : Nat) (hG : G.2.map Prod.snd = mTy) {w : Nat} {fs : List Value} (hfs : fs[1]? = some (.ref (w + 2))) {Q : Option Value → mH → Prop} : ∀ (k i : Nat) (h : mH), i + k = 60 → hGet h w = some (.inl (9, fs)) → hGet h (w + 2) = some (.inr (.inr (3, 60, (fun q => if q < i then some (w + 107 + q) else none)))) → h.1 ≤ w → h.2.1 = w + 107 + i →
    (∀ h', (∀ b, b < w + 107 + i → b ≠ w + 2 → hGet h' b = hGet h b) → hGet h' (w + 2) = some (.inr (.inr (3, 60, (fun q => if q < 60 then some (w + 107 + q) else none)))) → (∀ q, i ≤ q → q < 60 → hGet h' (w + 107 + q) = some (.inl (4, [.int 0, .int 0, .int 0]))) → h'.1 = h.1 → h'.2.1 = w + 107 + 60 → h'.2.2.1 = h.2.2.1 + 3 * k → RUN G l (d + 2) mX9_init 142 [some (.ref w), some (.int (J (60 : Int)))] [] h' Q) →
    RUN G l (d + 2) mX9_init 114 [some (.ref w), some (.int (J (i : Int)))] [] h Q := by
  intro k
  induction k with
  | zero =>
    intro i h hi hx ha hlo hn K
    obtain rfl : i = 60 := by omega
    refine r_iload_n (pc := 114) dX9_init_114 rfl ?_
    refine r_aload_n (pc := 115) dX9_init_115 rfl rfl ?_
    refine r_getf (pc := 116) dX9_init_116 fX9_19 hx hfs ?_
    refine rj_alenR (pc := 119) dX9_init_119 ha ?_
    refine rj_icmp_ge (pc := 120) (tgt := 142) dX9_init_120 (by decide) ⟨by omega, by omega⟩ ⟨by omega, by omega⟩ (fun c1 => ?_) (fun c1 => absurd (Int.le_refl _) c1)
    exact K h (fun b _ _ => rfl) ha (fun q h1 h2 => by omega) rfl hn (by omega)
  | succ k ih =>
    intro i h hi hx ha hlo hn K
    refine r_iload_n (pc := 114) dX9_init_114 rfl ?_
    refine r_aload_n (pc := 115) dX9_init_115 rfl rfl ?_
    refine r_getf (pc := 116) dX9_init_116 fX9_19 hx hfs ?_
    refine rj_alenR (pc := 119) dX9_init_119 ha ?_
    refine rj_icmp_ge (pc := 120) (tgt := 142) dX9_init_120 (by decide) ⟨by omega, by omega⟩ ⟨by omega, by omega⟩ (fun c1 => ?_) (fun c1 => ?_)
    · exfalso; omega
    refine r_aload_n (pc := 123) dX9_init_123 rfl rfl ?_
    refine r_getf (pc := 124) dX9_init_124 fX9_19 hx hfs ?_
    refine r_iload_n (pc := 127) dX9_init_127 rfl ?_
    refine rg_newC (pc := 128) (z := w + 107 + i) dX9_init_128 cX9_17 hn (fun h1 o1 s1 l1 n1 k1 => ?_)
    refine r_dup (pc := 131) dX9_init_131 rfl ?_
    refine r_callI0 (pc := 132) dX9_init_132 qX4_init rfl kX9_52 rfl iX4_init (Nat.le_of_ble_eq_true rfl) (k_X4 d) (fun v2 h2 q2 => ?_)
    obtain ⟨rfl, rfl⟩ := q2
    refine rg_aast (pc := 135) dX9_init_135 ((s1 (w + 2) (by omega)).trans ha) o1 rfl hG rfl (by omega) ⟨by omega, by omega⟩ (by omega) (by omega) (fun h3 o3 s3 l3 n3 k3 => ?_)
    rw [show ((i : Int)).toNat = i by omega, fill_s] at o3
    refine rj_iinc (pc := 136) dX9_init_136 (Nat.le_of_ble_eq_true rfl) rfl ?_
    dsimp only [lsSt, List.set, mLs, mEnt]
    refine r_goto (pc := 139) (tgt := 114) dX9_init_139 (by decide) ?_
    refine ih (i + 1) h3 (by omega) ((s3 w (by omega)).trans ((s1 w (by omega)).trans hx)) o3 (by omega) (by omega) (fun h' g1 g2 g3 g4 g5 g6 => ?_)
    refine K h' (fun b b1 b2 => (g1 b (by omega) b2).trans ((s3 b b2).trans (s1 b (by omega)))) g2 (fun q q1 q2 => ?_) (by omega) g5 (by omega)
    by_cases e : q = i
    · subst e
      exact (g1 _ (by omega) (by omega)).trans ((s3 _ (by omega)).trans o1)
    · exact g3 q (by omega) q2
set_option maxHeartbeats 4000000 in
set_option maxRecDepth 100000 in
theorem L_fillK {G : mG} {l : Launch} (d : Nat) (hG : G.2.map Prod.snd = mTy) {w : Nat} {fs : List Value} (hfs : fs[2]? = some (.ref (w + 3))) {Q : Option Value → mH → Prop} : ∀ (k i : Nat) (h : mH), i + k = 10 → hGet h w = some (.inl (9, fs)) → hGet h (w + 3) = some (.inr (.inr (4, 10, (fun q => if q < i then some (w + 167 + q) else none)))) → h.1 ≤ w → h.2.1 = w + 167 + i →
    (∀ h', (∀ b, b < w + 167 + i → b ≠ w + 3 → hGet h' b = hGet h b) → hGet h' (w + 3) = some (.inr (.inr (4, 10, (fun q => if q < 10 then some (w + 167 + q) else none)))) → (∀ q, i ≤ q → q < 10 → hGet h' (w + 167 + q) = some (.inl (7, [.null, .null, .int 0, .int 0, .int 0, .int 0, .int 0, .int 0, .int 0, .int 0, .int 0]))) → h'.1 = h.1 → h'.2.1 = w + 167 + 10 → h'.2.2.1 = h.2.2.1 + 11 * k → RUN G l (d + 2) mX9_init 172 [some (.ref w), some (.int (J (10 : Int)))] [] h' Q) →
    RUN G l (d + 2) mX9_init 144 [some (.ref w), some (.int (J (i : Int)))] [] h Q := by
  intro k
  induction k with
  | zero =>
    intro i h hi hx ha hlo hn K
    obtain rfl : i = 10 := by omega
    refine r_iload_n (pc := 144) dX9_init_144 rfl ?_
    refine r_aload_n (pc := 145) dX9_init_145 rfl rfl ?_
    refine r_getf (pc := 146) dX9_init_146 fX9_25 hx hfs ?_
    refine rj_alenR (pc := 149) dX9_init_149 ha ?_
    refine rj_icmp_ge (pc := 150) (tgt := 172) dX9_init_150 (by decide) ⟨by omega, by omega⟩ ⟨by omega, by omega⟩ (fun c1 => ?_) (fun c1 => absurd (Int.le_refl _) c1)
    exact K h (fun b _ _ => rfl) ha (fun q h1 h2 => by omega) rfl hn (by omega)
  | succ k ih =>
    intro i h hi hx ha hlo hn K
    refine r_iload_n (pc := 144) dX9_init_144 rfl ?_
    refine r_aload_n (pc := 145) dX9_init_145 rfl rfl ?_
    refine r_getf (pc := 146) dX9_init_146 fX9_25 hx hfs ?_
    refine rj_alenR (pc := 149) dX9_init_149 ha ?_
    refine rj_icmp_ge (pc := 150) (tgt := 172) dX9_init_150 (by decide) ⟨by omega, by omega⟩ ⟨by omega, by omega⟩ (fun c1 => ?_) (fun c1 => ?_)
    · exfalso; omega
    refine r_aload_n (pc := 153) dX9_init_153 rfl rfl ?_
    refine r_getf (pc := 154) dX9_init_154 fX9_25 hx hfs ?_
    refine r_iload_n (pc := 157) dX9_init_157 rfl ?_
    refine rg_newC (pc := 158) (z := w + 167 + i) dX9_init_158 cX9_23 hn (fun h1 o1 s1 l1 n1 k1 => ?_)
    refine r_dup (pc := 161) dX9_init_161 rfl ?_
    refine r_callI0 (pc := 162) dX9_init_162 qX7_init rfl kX9_53 rfl iX7_init (Nat.le_of_ble_eq_true rfl) (k_X7 d) (fun v2 h2 q2 => ?_)
    obtain ⟨rfl, rfl⟩ := q2
    refine rg_aast (pc := 165) dX9_init_165 ((s1 (w + 3) (by omega)).trans ha) o1 rfl hG rfl (by omega) ⟨by omega, by omega⟩ (by omega) (by omega) (fun h3 o3 s3 l3 n3 k3 => ?_)
    rw [show ((i : Int)).toNat = i by omega, fill_s] at o3
    refine rj_iinc (pc := 166) dX9_init_166 (Nat.le_of_ble_eq_true rfl) rfl ?_
    dsimp only [lsSt, List.set, mLs, mEnt]
    refine r_goto (pc := 169) (tgt := 144) dX9_init_169 (by decide) ?_
    refine ih (i + 1) h3 (by omega) ((s3 w (by omega)).trans ((s1 w (by omega)).trans hx)) o3 (by omega) (by omega) (fun h' g1 g2 g3 g4 g5 g6 => ?_)
    refine K h' (fun b b1 b2 => (g1 b (by omega) b2).trans ((s3 b b2).trans (s1 b (by omega)))) g2 (fun q q1 q2 => ?_) (by omega) g5 (by omega)
    by_cases e : q = i
    · subst e
      exact (g1 _ (by omega) (by omega)).trans ((s3 _ (by omega)).trans o1)
    · exact g3 q (by omega) q2
def w0 : Nat → Int := fun _ => 0
def wc0 : Nat → Int := updI (updI (updI (updI w0 8 8) 1 1) 305 (-5)) 306 (-5)
def wC0 : Nat → Nat → Int := updC (fun _ => w0) 0 (zerF 8 w0)
def wn0 : Nat → Int64 := fun _ => 0
def wg0 : Nat → Option Nat := fun _ => none
theorem w0_r (q : Nat) : InR (w0 q) := by unfold w0; decide
theorem fl1 {a q : Nat} (h : q < 90) : a + 17 + q < a + 107 + 0 := by omega
theorem fl2 {a q : Nat} : a + 17 + q ≠ a + 2 := by omega
theorem fl3 {a q : Nat} (h : q < 90) : a + 17 + q < a + 167 + 0 := by omega
theorem fl4 {a q : Nat} : a + 17 + q ≠ a + 3 := by omega
theorem fl5 {a q : Nat} (h : q < 60) : a + 107 + q < a + 167 + 0 := by omega
theorem fl6 {a q : Nat} : a + 107 + q ≠ a + 3 := by omega
set_option maxHeartbeats 4000000 in
set_option maxRecDepth 100000 in
theorem k_X9_tail {G : mG} {l : Launch} (d : Nat) {h hK : mH} {a : Nat} (e0 : hGet hK a = some (.inl (9, [.ref (a + 1), .ref (a + 2), .ref (a + 3), .int 0, .int 0, .int 0, .int 0, .ref (a + 4), .ref (a + 6), .ref (a + 8), .ref (a + 10)]))) (e1 : hGet hK (a + 1) = some (.inr (.inr (2, 90, fun q => if q < 90 then some (a + 17 + q) else none)))) (e2 : hGet hK (a + 2) = some (.inr (.inr (3, 60, fun q => if q < 60 then some (a + 107 + q) else none)))) (e3 : hGet hK (a + 3) = some (.inr (.inr (4, 10, fun q => if q < 10 then some (a + 167 + q) else none)))) (e10 : hGet hK (a + 10) = some (.inl (0, [.ref (a + 11), .ref (a + 13), .ref (a + 15), .int 0]))) (e4 : hGet hK (a + 4) = some (.inl (1, [.ref (a + 5), .int (J 0)]))) (e5 : hGet hK (a + 5) = some (.inr (.inl (8, fun _ => J 0)))) (e6 : hGet hK (a + 6) = some (.inl (1, [.ref (a + 7), .int (J 0)]))) (e7 : hGet hK (a + 7) = some (.inr (.inl (90, fun _ => J 0)))) (e8 : hGet hK (a + 8) = some (.inl (1, [.ref (a + 9), .int (J 0)]))) (e9 : hGet hK (a + 9) = some (.inr (.inl (150, fun _ => J 0)))) (e11 : hGet hK (a + 11) = some (.inl (1, [.ref (a + 12), .int (J 0)]))) (e12 : hGet hK (a + 12) = some (.inr (.inl (90, fun _ => J 0)))) (e13 : hGet hK (a + 13) = some (.inl (1, [.ref (a + 14), .int (J 0)]))) (e14 : hGet hK (a + 14) = some (.inr (.inl (90, fun _ => J 0)))) (e15 : hGet hK (a + 15) = some (.inl (1, [.ref (a + 16), .int (J 0)]))) (e16 : hGet hK (a + 16) = some (.inr (.inl (90, fun _ => J 0)))) (lo9 : hK.1 ≤ a) (low9 : ∀ b, b < a → hGet hK b = hGet h b) (l9 : hK.1 = h.1) (n9 : hK.2.1 = a + 177) (k9 : hK.2.2.1 = h.2.2.1 + 1524) (zT : ∀ q, q < 90 → hGet hK (a + 17 + q) = some (.inl (8, [.long 0, .null, .null, .int 0, .int 0, .int 0]))) (zS : ∀ q, q < 60 → hGet hK (a + 107 + q) = some (.inl (4, [.int 0, .int 0, .int 0]))) (zK : ∀ q, q < 10 → hGet hK (a + 167 + q) = some (.inl (7, [.null, .null, .int 0, .int 0, .int 0, .int 0, .int 0, .int 0, .int 0, .int 0, .int 0]))) : RUN G l (d + 3) mX9_init 172 [some (.ref a), some (.int (J (10 : Int)))] [] hK (fun v h' => v = none ∧ isW h' a wc0 wC0 wn0 wg0 ∧ Grow a h h' ∧ h'.1 = h.1 ∧ h'.2.1 = a + 177 ∧ h'.2.2.1 = h.2.2.1 + 1524) := by
  have hW0 : isW hK a w0 (fun _ => w0) wn0 wg0 := by
    refine ⟨lo9, ?_, e1, e2, e3, ?_, fun k hk => ?_, fun q hq => ?_, fun q hq => ?_, fun q hq => ?_⟩
    · rw [J_0] at e0; exact e0
    · rw [J_0] at e10; exact e10
    · match k, hk with
      | 0, _ => exact ⟨Nat.le_trans lo9 (Nat.le_add_right _ _), e4, e5⟩
      | 1, _ => exact ⟨Nat.le_trans lo9 (Nat.le_add_right _ _), e6, e7⟩
      | 2, _ => exact ⟨Nat.le_trans lo9 (Nat.le_add_right _ _), e8, e9⟩
      | 3, _ => exact ⟨Nat.le_trans lo9 (Nat.le_add_right _ _), e11, e12⟩
      | 4, _ => exact ⟨Nat.le_trans lo9 (Nat.le_add_right _ _), e13, e14⟩
      | 5, _ => exact ⟨Nat.le_trans lo9 (Nat.le_add_right _ _), e15, e16⟩
      | k + 6, hk => omega
    · have y := zT q hq; rw [J_0] at y; exact y
    · have y := zS q hq; rw [J_0] at y; exact y
    · have y := zK q hq; rw [J_0] at y; exact y
  refine r_aload_n (pc := 172) dX9_init_172 rfl rfl ?_
  refine r_getf (pc := 173) dX9_init_173 fX9_34 hW0.gx (by rfl) ?_
  refine rj_bipush (pc := 176) dX9_init_176 (by decide +kernel) ?_
  refine r_callV1 (pc := 178) dX9_init_178 qX1_becomeZeros kX9_54 vX1_becomeZeros (by first | assumption | exact isI.gx (by assumption) | exact isI.gc (by assumption) | exact isW.gx (by assumption) | exact isW.gF (by assumption) | exact isW.gT (by assumption) (by omega) | exact isW.gS (by assumption) (by omega) | exact isW.gK (by assumption) (by omega) | exact isW.g1 (by assumption) | exact isW.g2 (by assumption) | exact isW.g3 (by assumption) | exact isI.gx (isW.i0 (by assumption)) | exact isI.gc (isW.i0 (by assumption)) | exact isI.gx (isW.i1 (by assumption)) | exact isI.gc (isW.i1 (by assumption)) | exact isI.gx (isW.i2 (by assumption)) | exact isI.gc (isW.i2 (by assumption)) | exact isI.gx (isW.i3 (by assumption)) | exact isI.gc (isW.i3 (by assumption)) | exact isI.gx (isW.i4 (by assumption)) | exact isI.gc (isW.i4 (by assumption)) | exact isI.gx (isW.i5 (by assumption)) | exact isI.gc (isW.i5 (by assumption)) | exact isR.gx (by assumption) | exact isRd.gx (by assumption) | exact isSp.gx (by assumption) | exact isI.gx (isR.i (by assumption)) | exact isI.gx (isRd.i (by assumption)) | exact isI.gc (isRd.i (by assumption)) | exact isI.gx (isSp.i (by assumption)) | exact isW.gx (isR.w (by assumption)) | exact isW.gF (isR.w (by assumption)) | fail "no such object") rfl rfl (Nat.le_of_ble_eq_true rfl) (ci_becomeZeros _ (Z := 8) hW0.i0 (by decide) (w0_r _) (by decide)) (fun v_178 h_178 q_178 => ?_)
  obtain ⟨rfl, I_178, S_178⟩ := q_178
  have hW1 := hW0.ofI (j := 0) (by decide) S_178 I_178
  refine r_aload_n (pc := 181) dX9_init_181 rfl rfl ?_
  refine rj_iconst (pc := 182) dX9_init_182 ?_
  refine rc_putw1 (pc := 183) dX9_init_183 fX9_57 hW1 (fun h_183 hW_183 S_183 => ?_)
  refine r_aload_n (pc := 186) dX9_init_186 rfl rfl ?_
  refine rj_iconst (pc := 187) dX9_init_187 ?_
  have hcc : ∀ q, InR (updI (updI w0 8 8) 1 1 q) := by intro q; unfold updI; (repeat' split) <;> first | decide | exact w0_r _
  refine r_callV1 (pc := 188) dX9_init_188 qX9_scopeAt kX9_61 vX9_scopeAt (by first | assumption | exact isI.gx (by assumption) | exact isI.gc (by assumption) | exact isW.gx (by assumption) | exact isW.gF (by assumption) | exact isW.gT (by assumption) (by omega) | exact isW.gS (by assumption) (by omega) | exact isW.gK (by assumption) (by omega) | exact isW.g1 (by assumption) | exact isW.g2 (by assumption) | exact isW.g3 (by assumption) | exact isI.gx (isW.i0 (by assumption)) | exact isI.gc (isW.i0 (by assumption)) | exact isI.gx (isW.i1 (by assumption)) | exact isI.gc (isW.i1 (by assumption)) | exact isI.gx (isW.i2 (by assumption)) | exact isI.gc (isW.i2 (by assumption)) | exact isI.gx (isW.i3 (by assumption)) | exact isI.gc (isW.i3 (by assumption)) | exact isI.gx (isW.i4 (by assumption)) | exact isI.gc (isW.i4 (by assumption)) | exact isI.gx (isW.i5 (by assumption)) | exact isI.gc (isW.i5 (by assumption)) | exact isR.gx (by assumption) | exact isRd.gx (by assumption) | exact isSp.gx (by assumption) | exact isI.gx (isR.i (by assumption)) | exact isI.gx (isRd.i (by assumption)) | exact isI.gc (isRd.i (by assumption)) | exact isI.gx (isSp.i (by assumption)) | exact isW.gx (isR.w (by assumption)) | exact isW.gF (isR.w (by assumption)) | fail "no such object") rfl rfl (Nat.le_of_ble_eq_true rfl) (cw_scopeAt _ hW_183 hcc ⟨by decide, by decide⟩) (fun v_188 h_188 q_188 => ?_)
  obtain ⟨q1_188, rfl⟩ := q_188
  obtain rfl := scAt_P (by decide) q1_188
  refine r_astore_n (pc := 191) dX9_init_191 (Nat.le_of_ble_eq_true rfl) rfl ?_
  dsimp only [lsSt, List.set, mLs, mEnt]
  refine r_aload_n (pc := 192) dX9_init_192 rfl rfl ?_
  refine r_ifnull (pc := 193) (tgt := 208) dX9_init_193 (by decide) rfl (fun c_193 => by cases c_193) (fun a_193 c_193 => ?_)
  refine r_aload_n (pc := 196) dX9_init_196 rfl rfl ?_
  refine rj_bipush (pc := 197) dX9_init_197 (by decide +kernel) ?_
  refine rc_putS1 (pc := 199) (q0 := 0) dX9_init_199 fX9_65 hW_183 (by decide) (fun h_199 hW_199 S_199 => ?_)
  refine r_aload_n (pc := 202) dX9_init_202 rfl rfl ?_
  refine rj_bipush (pc := 203) dX9_init_203 (by decide +kernel) ?_
  refine rc_putS2 (pc := 205) (q0 := 0) dX9_init_205 fX9_68 hW_199 (by decide) (fun h_205 hW_205 S_205 => ?_)
  refine r_return (pc := 208) dX9_init_208 rfl ?_
  have S1 := ((S_178.mono (fun b hb => iBlk_wBlk (j := 0) hb)).trans S_183).trans (S_199.trans S_205)
  exact ⟨rfl, hW_205, fun b hb => (S1.2.2.2 b (fun q => by unfold wBlk at q; omega)).trans (low9 b hb), S1.1.trans l9, S1.2.1.trans n9, S1.2.2.1.trans k9⟩
set_option maxHeartbeats 4000000 in
set_option maxRecDepth 100000 in
theorem k_X9 {G : mG} {l : Launch} (d : Nat) (hG : G.2.map Prod.snd = mTy) {h : mH} {a : Nat} (hx : hGet h a = some (.inl (9, [.null, .null, .null, .int 0, .int 0, .int 0, .int 0, .null, .null, .null, .null]))) (hlo : h.1 ≤ a) (hn : h.2.1 = a + 1) : RUNM G l (d + 3) mX9_init [.ref a] h (fun v h' => v = none ∧ isW h' a wc0 wC0 wn0 wg0 ∧ Grow a h h' ∧ h'.1 = h.1 ∧ h'.2.1 = a + 177 ∧ h'.2.2.1 = h.2.2.1 + 1524) := by
  refine RUNM.of (by decide +kernel) (Nat.le_of_ble_eq_true rfl) ?_
  refine r_aload_n (pc := 0) dX9_init_0 rfl rfl ?_
  refine r_objInit (pc := 1) dX9_init_1 kX9_3 (Nat.le_of_ble_eq_true rfl) ?_
  refine r_aload_n (pc := 4) dX9_init_4 rfl rfl ?_
  refine rj_bipush (pc := 5) dX9_init_5 (by decide +kernel) ?_
  refine rg_newaR (pc := 7) (z := a + 1) (t := 2) dX9_init_7 hG rfl aX9_9 w_Thing hn (by decide) (by decide) (fun h_7 o_7 s_7 l_7 n_7 k_7 => ?_)
  have k_7 : h_7.2.2.1 = h.2.2.1 + (90) := sl_add k_7 sl_0
  refine r_putF (pc := 10) dX9_init_10 fX9_11 ⟨_, rfl, rfl⟩ rfl ((s_7 a (ad_0ne (j := 1) (by decide))).trans hx) (Nat.le_trans (Nat.le_of_eq l_7) hlo) rfl rfl (Nat.le_of_ble_eq_true rfl) ?_
  refine rg_gen (fun h_10 o_10 s_10 l_10 n_10 k_10 => ?_)
  dsimp only [List.set] at o_10
  have n_10 := n_10.trans n_7
  have l_10 := l_10.trans l_7
  have k_10 : h_10.2.2.1 = h.2.2.1 + (90) := k_10.trans k_7
  refine r_aload_n (pc := 13) dX9_init_13 rfl rfl ?_
  refine rj_bipush (pc := 14) dX9_init_14 (by decide +kernel) ?_
  refine rg_newaR (pc := 16) (z := a + 2) (t := 3) dX9_init_16 hG rfl aX9_17 w_Scope n_10 (by decide) (by decide) (fun h_16 o_16 s_16 l_16 n_16 k_16 => ?_)
  have l_16 := l_16.trans l_10
  have k_16 : h_16.2.2.1 = h.2.2.1 + (150) := sl_add k_16 k_10
  refine r_putF (pc := 19) dX9_init_19 fX9_19 ⟨_, rfl, rfl⟩ rfl ((s_16 a (ad_0ne (j := 2) (by decide))).trans o_10) (Nat.le_trans (Nat.le_of_eq l_16) hlo) rfl rfl (Nat.le_of_ble_eq_true rfl) ?_
  refine rg_gen (fun h_19 o_19 s_19 l_19 n_19 k_19 => ?_)
  dsimp only [List.set] at o_19
  have n_19 := n_19.trans n_16
  have l_19 := l_19.trans l_16
  have k_19 : h_19.2.2.1 = h.2.2.1 + (150) := k_19.trans k_16
  refine r_aload_n (pc := 22) dX9_init_22 rfl rfl ?_
  refine rj_bipush (pc := 23) dX9_init_23 (by decide +kernel) ?_
  refine rg_newaR (pc := 25) (z := a + 3) (t := 4) dX9_init_25 hG rfl aX9_23 w_Task n_19 (by decide) (by decide) (fun h_25 o_25 s_25 l_25 n_25 k_25 => ?_)
  have l_25 := l_25.trans l_19
  have k_25 : h_25.2.2.1 = h.2.2.1 + (160) := sl_add k_25 k_19
  refine r_putF (pc := 28) dX9_init_28 fX9_25 ⟨_, rfl, rfl⟩ rfl ((s_25 a (ad_0ne (j := 3) (by decide))).trans o_19) (Nat.le_trans (Nat.le_of_eq l_25) hlo) rfl rfl (Nat.le_of_ble_eq_true rfl) ?_
  refine rg_gen (fun h_28 o_28 s_28 l_28 n_28 k_28 => ?_)
  dsimp only [List.set] at o_28
  have n_28 := n_28.trans n_25
  have l_28 := l_28.trans l_25
  have k_28 : h_28.2.2.1 = h.2.2.1 + (160) := k_28.trans k_25
  refine r_aload_n (pc := 31) dX9_init_31 rfl rfl ?_
  refine rg_newC (pc := 32) (z := a + 4) dX9_init_32 cX9_29 n_28 (fun h_32 o_32 s_32 l_32 n_32 k_32 => ?_)
  have l_32 := l_32.trans l_28
  have k_32 : h_32.2.2.1 = h.2.2.1 + (162) := sl_add k_32 k_28
  refine r_dup (pc := 35) dX9_init_35 rfl ?_
  refine rj_bipush (pc := 36) dX9_init_36 (by decide +kernel) ?_
  refine r_callI1 (pc := 38) dX9_init_38 qX1_init rfl kX9_31 rfl iX1_init (Nat.le_of_ble_eq_true rfl) (ki_init _ hG (N := 8) (by decide) o_32 (Nat.le_trans (Nat.le_trans (Nat.le_of_eq l_32) hlo) (Nat.le_add_right _ _)) n_32) (fun v_38 h_38 q_38 => ?_)
  obtain ⟨rfl, F_38, s_38, l_38, n_38, k_38⟩ := q_38
  have l_38 := l_38.trans l_32
  have k_38 : h_38.2.2.1 = h.2.2.1 + (170) := sl_add k_38 k_32
  refine r_putF (pc := 41) dX9_init_41 fX9_34 ⟨_, rfl, rfl⟩ rfl ((s_38 a (ad_0lt (j := 4) (by decide))).trans ((s_32 a (ad_0ne (j := 4) (by decide))).trans o_28)) (Nat.le_trans (Nat.le_of_eq l_38) hlo) rfl rfl (Nat.le_of_ble_eq_true rfl) ?_
  refine rg_gen (fun h_41 o_41 s_41 l_41 n_41 k_41 => ?_)
  dsimp only [List.set] at o_41
  have n_41 := n_41.trans n_38
  have l_41 := l_41.trans l_38
  have k_41 : h_41.2.2.1 = h.2.2.1 + (170) := k_41.trans k_38
  refine r_aload_n (pc := 44) dX9_init_44 rfl rfl ?_
  refine rg_newC (pc := 45) (z := a + 6) dX9_init_45 cX9_29 n_41 (fun h_45 o_45 s_45 l_45 n_45 k_45 => ?_)
  have l_45 := l_45.trans l_41
  have k_45 : h_45.2.2.1 = h.2.2.1 + (172) := sl_add k_45 k_41
  refine r_dup (pc := 48) dX9_init_48 rfl ?_
  refine rj_bipush (pc := 49) dX9_init_49 (by decide +kernel) ?_
  refine r_callI1 (pc := 51) dX9_init_51 qX1_init rfl kX9_31 rfl iX1_init (Nat.le_of_ble_eq_true rfl) (ki_init _ hG (N := 90) (by decide) o_45 (Nat.le_trans (Nat.le_trans (Nat.le_of_eq l_45) hlo) (Nat.le_add_right _ _)) n_45) (fun v_51 h_51 q_51 => ?_)
  obtain ⟨rfl, F_51, s_51, l_51, n_51, k_51⟩ := q_51
  have l_51 := l_51.trans l_45
  have k_51 : h_51.2.2.1 = h.2.2.1 + (262) := sl_add k_51 k_45
  refine r_putF (pc := 54) dX9_init_54 fX9_38 ⟨_, rfl, rfl⟩ rfl ((s_51 a (ad_0lt (j := 6) (by decide))).trans ((s_45 a (ad_0ne (j := 6) (by decide))).trans o_41)) (Nat.le_trans (Nat.le_of_eq l_51) hlo) rfl rfl (Nat.le_of_ble_eq_true rfl) ?_
  refine rg_gen (fun h_54 o_54 s_54 l_54 n_54 k_54 => ?_)
  dsimp only [List.set] at o_54
  have n_54 := n_54.trans n_51
  have l_54 := l_54.trans l_51
  have k_54 : h_54.2.2.1 = h.2.2.1 + (262) := k_54.trans k_51
  refine r_aload_n (pc := 57) dX9_init_57 rfl rfl ?_
  refine rg_newC (pc := 58) (z := a + 8) dX9_init_58 cX9_29 n_54 (fun h_58 o_58 s_58 l_58 n_58 k_58 => ?_)
  have l_58 := l_58.trans l_54
  have k_58 : h_58.2.2.1 = h.2.2.1 + (264) := sl_add k_58 k_54
  refine r_dup (pc := 61) dX9_init_61 rfl ?_
  refine rj_sipush (pc := 62) dX9_init_62 (by decide +kernel) ?_
  refine r_callI1 (pc := 65) dX9_init_65 qX1_init rfl kX9_31 rfl iX1_init (Nat.le_of_ble_eq_true rfl) (ki_init _ hG (N := 150) (by decide) o_58 (Nat.le_trans (Nat.le_trans (Nat.le_of_eq l_58) hlo) (Nat.le_add_right _ _)) n_58) (fun v_65 h_65 q_65 => ?_)
  obtain ⟨rfl, F_65, s_65, l_65, n_65, k_65⟩ := q_65
  have l_65 := l_65.trans l_58
  have k_65 : h_65.2.2.1 = h.2.2.1 + (414) := sl_add k_65 k_58
  refine r_putF (pc := 68) dX9_init_68 fX9_41 ⟨_, rfl, rfl⟩ rfl ((s_65 a (ad_0lt (j := 8) (by decide))).trans ((s_58 a (ad_0ne (j := 8) (by decide))).trans o_54)) (Nat.le_trans (Nat.le_of_eq l_65) hlo) rfl rfl (Nat.le_of_ble_eq_true rfl) ?_
  refine rg_gen (fun h_68 o_68 s_68 l_68 n_68 k_68 => ?_)
  dsimp only [List.set] at o_68
  have n_68 := n_68.trans n_65
  have l_68 := l_68.trans l_65
  have k_68 : h_68.2.2.1 = h.2.2.1 + (414) := k_68.trans k_65
  refine r_aload_n (pc := 71) dX9_init_71 rfl rfl ?_
  refine rg_newC (pc := 72) (z := a + 10) dX9_init_72 cX9_44 n_68 (fun h_72 o_72 s_72 l_72 n_72 k_72 => ?_)
  have l_72 := l_72.trans l_68
  have k_72 : h_72.2.2.1 = h.2.2.1 + (418) := sl_add k_72 k_68
  refine r_dup (pc := 75) dX9_init_75 rfl ?_
  refine r_callI0 (pc := 76) dX9_init_76 qX0_init rfl kX9_46 rfl iX0_init (Nat.le_of_ble_eq_true rfl) (k_X0 _ hG o_72 (Nat.le_trans (Nat.le_trans (Nat.le_of_eq l_72) hlo) (Nat.le_add_right _ _)) n_72) (fun v_76 h_76 q_76 => ?_)
  obtain ⟨rfl, F_76, s_76, l_76, n_76, k_76⟩ := q_76
  have l_76 := l_76.trans l_72
  have k_76 : h_76.2.2.1 = h.2.2.1 + (694) := sl_add k_76 k_72
  refine r_putF (pc := 79) dX9_init_79 fX9_47 ⟨_, rfl, rfl⟩ rfl ((s_76 a (ad_0lt (j := 10) (by decide))).trans ((s_72 a (ad_0ne (j := 10) (by decide))).trans o_68)) (Nat.le_trans (Nat.le_of_eq l_76) hlo) rfl rfl (Nat.le_of_ble_eq_true rfl) ?_
  refine rg_gen (fun h_79 o_79 s_79 l_79 n_79 k_79 => ?_)
  dsimp only [List.set] at o_79
  have n_79 := n_79.trans n_76
  have l_79 := l_79.trans l_76
  have k_79 : h_79.2.2.1 = h.2.2.1 + (694) := k_79.trans k_76
  refine rj_iconst (pc := 82) dX9_init_82 ?_
  refine r_istore_n (pc := 83) dX9_init_83 (Nat.le_of_ble_eq_true rfl) ?_
  dsimp only [lsSt, List.set, mLs, mEnt]
  have aT := ((s_79 (a + 1) (ad_ne0 (i := 1) (by decide))).trans ((s_76 (a + 1) (ad_lt (i := 1) (j := 10) (by decide))).trans ((s_72 (a + 1) (ad_ne (i := 1) (j := 10) (by decide))).trans ((s_68 (a + 1) (ad_ne0 (i := 1) (by decide))).trans ((s_65 (a + 1) (ad_lt (i := 1) (j := 8) (by decide))).trans ((s_58 (a + 1) (ad_ne (i := 1) (j := 8) (by decide))).trans ((s_54 (a + 1) (ad_ne0 (i := 1) (by decide))).trans ((s_51 (a + 1) (ad_lt (i := 1) (j := 6) (by decide))).trans ((s_45 (a + 1) (ad_ne (i := 1) (j := 6) (by decide))).trans ((s_41 (a + 1) (ad_ne0 (i := 1) (by decide))).trans ((s_38 (a + 1) (ad_lt (i := 1) (j := 4) (by decide))).trans ((s_32 (a + 1) (ad_ne (i := 1) (j := 4) (by decide))).trans ((s_28 (a + 1) (ad_ne0 (i := 1) (by decide))).trans ((s_25 (a + 1) (ad_ne (i := 1) (j := 3) (by decide))).trans ((s_19 (a + 1) (ad_ne0 (i := 1) (by decide))).trans ((s_16 (a + 1) (ad_ne (i := 1) (j := 2) (by decide))).trans ((s_10 (a + 1) (ad_ne0 (i := 1) (by decide))).trans o_7)))))))))))))))))
  rw [fill_0 (a + 17)] at aT
  refine L_fillT _ hG (w := a) (fs := [.ref (a + 1), .ref (a + 2), .ref (a + 3), .int 0, .int 0, .int 0, .int 0, .ref (a + 4), .ref (a + 6), .ref (a + 8), .ref (a + 10)]) rfl 90 0 h_79 rfl o_79 aT (Nat.le_trans (Nat.le_of_eq l_79) hlo) n_79 (fun h_T s_T o_T z_T l_T n_T k_T => ?_)
  have l_T := l_T.trans l_79
  have k_T : h_T.2.2.1 = h.2.2.1 + (1234) := sl_add k_T k_79
  refine rj_iconst (pc := 112) dX9_init_112 ?_
  refine r_istore_n (pc := 113) dX9_init_113 (Nat.le_of_ble_eq_true rfl) ?_
  dsimp only [lsSt, List.set, mLs, mEnt]
  have aS := ((s_T (a + 2) (ad_lt (i := 2) (j := 17) (by decide)) (ad_ne (i := 2) (j := 1) (by decide))).trans ((s_79 (a + 2) (ad_ne0 (i := 2) (by decide))).trans ((s_76 (a + 2) (ad_lt (i := 2) (j := 10) (by decide))).trans ((s_72 (a + 2) (ad_ne (i := 2) (j := 10) (by decide))).trans ((s_68 (a + 2) (ad_ne0 (i := 2) (by decide))).trans ((s_65 (a + 2) (ad_lt (i := 2) (j := 8) (by decide))).trans ((s_58 (a + 2) (ad_ne (i := 2) (j := 8) (by decide))).trans ((s_54 (a + 2) (ad_ne0 (i := 2) (by decide))).trans ((s_51 (a + 2) (ad_lt (i := 2) (j := 6) (by decide))).trans ((s_45 (a + 2) (ad_ne (i := 2) (j := 6) (by decide))).trans ((s_41 (a + 2) (ad_ne0 (i := 2) (by decide))).trans ((s_38 (a + 2) (ad_lt (i := 2) (j := 4) (by decide))).trans ((s_32 (a + 2) (ad_ne (i := 2) (j := 4) (by decide))).trans ((s_28 (a + 2) (ad_ne0 (i := 2) (by decide))).trans ((s_25 (a + 2) (ad_ne (i := 2) (j := 3) (by decide))).trans ((s_19 (a + 2) (ad_ne0 (i := 2) (by decide))).trans o_16))))))))))))))))
  rw [fill_0 (a + 107)] at aS
  refine L_fillS _ hG (w := a) (fs := [.ref (a + 1), .ref (a + 2), .ref (a + 3), .int 0, .int 0, .int 0, .int 0, .ref (a + 4), .ref (a + 6), .ref (a + 8), .ref (a + 10)]) rfl 60 0 h_T rfl ((s_T a (ad_0lt (j := 17) (by decide)) (ad_0ne (j := 1) (by decide))).trans o_79) aS (Nat.le_trans (Nat.le_of_eq l_T) hlo) n_T (fun h_S s_S o_S z_S l_S n_S k_S => ?_)
  have l_S := l_S.trans l_T
  have k_S : h_S.2.2.1 = h.2.2.1 + (1414) := sl_add k_S k_T
  refine rj_iconst (pc := 142) dX9_init_142 ?_
  refine r_istore_n (pc := 143) dX9_init_143 (Nat.le_of_ble_eq_true rfl) ?_
  dsimp only [lsSt, List.set, mLs, mEnt]
  have aK := ((s_S (a + 3) (ad_lt (i := 3) (j := 107) (by decide)) (ad_ne (i := 3) (j := 2) (by decide))).trans ((s_T (a + 3) (ad_lt (i := 3) (j := 17) (by decide)) (ad_ne (i := 3) (j := 1) (by decide))).trans ((s_79 (a + 3) (ad_ne0 (i := 3) (by decide))).trans ((s_76 (a + 3) (ad_lt (i := 3) (j := 10) (by decide))).trans ((s_72 (a + 3) (ad_ne (i := 3) (j := 10) (by decide))).trans ((s_68 (a + 3) (ad_ne0 (i := 3) (by decide))).trans ((s_65 (a + 3) (ad_lt (i := 3) (j := 8) (by decide))).trans ((s_58 (a + 3) (ad_ne (i := 3) (j := 8) (by decide))).trans ((s_54 (a + 3) (ad_ne0 (i := 3) (by decide))).trans ((s_51 (a + 3) (ad_lt (i := 3) (j := 6) (by decide))).trans ((s_45 (a + 3) (ad_ne (i := 3) (j := 6) (by decide))).trans ((s_41 (a + 3) (ad_ne0 (i := 3) (by decide))).trans ((s_38 (a + 3) (ad_lt (i := 3) (j := 4) (by decide))).trans ((s_32 (a + 3) (ad_ne (i := 3) (j := 4) (by decide))).trans ((s_28 (a + 3) (ad_ne0 (i := 3) (by decide))).trans o_25)))))))))))))))
  rw [fill_0 (a + 167)] at aK
  refine L_fillK _ hG (w := a) (fs := [.ref (a + 1), .ref (a + 2), .ref (a + 3), .int 0, .int 0, .int 0, .int 0, .ref (a + 4), .ref (a + 6), .ref (a + 8), .ref (a + 10)]) rfl 10 0 h_S rfl ((s_S a (ad_0lt (j := 107) (by decide)) (ad_0ne (j := 2) (by decide))).trans ((s_T a (ad_0lt (j := 17) (by decide)) (ad_0ne (j := 1) (by decide))).trans o_79)) aK (Nat.le_trans (Nat.le_of_eq l_S) hlo) n_S (fun h_K s_K o_K z_K l_K n_K k_K => ?_)
  have l_K := l_K.trans l_S
  have k_K : h_K.2.2.1 = h.2.2.1 + (1524) := sl_add k_K k_S
  have lo9 : h_K.1 ≤ a := (Nat.le_trans (Nat.le_of_eq l_K) hlo)
  have e0 := ((s_K a (ad_0lt (j := 167) (by decide)) (ad_0ne (j := 3) (by decide))).trans ((s_S a (ad_0lt (j := 107) (by decide)) (ad_0ne (j := 2) (by decide))).trans ((s_T a (ad_0lt (j := 17) (by decide)) (ad_0ne (j := 1) (by decide))).trans o_79)))
  have e1 := ((s_K (a + 1) (ad_lt (i := 1) (j := 167) (by decide)) (ad_ne (i := 1) (j := 3) (by decide))).trans ((s_S (a + 1) (ad_lt (i := 1) (j := 107) (by decide)) (ad_ne (i := 1) (j := 2) (by decide))).trans o_T))
  have e2 := ((s_K (a + 2) (ad_lt (i := 2) (j := 167) (by decide)) (ad_ne (i := 2) (j := 3) (by decide))).trans o_S)
  have e3 := o_K
  have e10 := ((s_K (a + 10) (ad_lt (i := 10) (j := 167) (by decide)) (ad_ne (i := 10) (j := 3) (by decide))).trans ((s_S (a + 10) (ad_lt (i := 10) (j := 107) (by decide)) (ad_ne (i := 10) (j := 2) (by decide))).trans ((s_T (a + 10) (ad_lt (i := 10) (j := 17) (by decide)) (ad_ne (i := 10) (j := 1) (by decide))).trans ((s_79 (a + 10) (ad_ne0 (i := 10) (by decide))).trans F_76.1))))
  have e4 := ((s_K (a + 4) (ad_lt (i := 4) (j := 167) (by decide)) (ad_ne (i := 4) (j := 3) (by decide))).trans ((s_S (a + 4) (ad_lt (i := 4) (j := 107) (by decide)) (ad_ne (i := 4) (j := 2) (by decide))).trans ((s_T (a + 4) (ad_lt (i := 4) (j := 17) (by decide)) (ad_ne (i := 4) (j := 1) (by decide))).trans ((s_79 (a + 4) (ad_ne0 (i := 4) (by decide))).trans ((s_76 (a + 4) (ad_lt (i := 4) (j := 10) (by decide))).trans ((s_72 (a + 4) (ad_ne (i := 4) (j := 10) (by decide))).trans ((s_68 (a + 4) (ad_ne0 (i := 4) (by decide))).trans ((s_65 (a + 4) (ad_lt (i := 4) (j := 8) (by decide))).trans ((s_58 (a + 4) (ad_ne (i := 4) (j := 8) (by decide))).trans ((s_54 (a + 4) (ad_ne0 (i := 4) (by decide))).trans ((s_51 (a + 4) (ad_lt (i := 4) (j := 6) (by decide))).trans ((s_45 (a + 4) (ad_ne (i := 4) (j := 6) (by decide))).trans ((s_41 (a + 4) (ad_ne0 (i := 4) (by decide))).trans F_38.gx)))))))))))))
  have e5 := ((s_K (a + 5) (ad_lt (i := 5) (j := 167) (by decide)) (ad_ne (i := 5) (j := 3) (by decide))).trans ((s_S (a + 5) (ad_lt (i := 5) (j := 107) (by decide)) (ad_ne (i := 5) (j := 2) (by decide))).trans ((s_T (a + 5) (ad_lt (i := 5) (j := 17) (by decide)) (ad_ne (i := 5) (j := 1) (by decide))).trans ((s_79 (a + 5) (ad_ne0 (i := 5) (by decide))).trans ((s_76 (a + 5) (ad_lt (i := 5) (j := 10) (by decide))).trans ((s_72 (a + 5) (ad_ne (i := 5) (j := 10) (by decide))).trans ((s_68 (a + 5) (ad_ne0 (i := 5) (by decide))).trans ((s_65 (a + 5) (ad_lt (i := 5) (j := 8) (by decide))).trans ((s_58 (a + 5) (ad_ne (i := 5) (j := 8) (by decide))).trans ((s_54 (a + 5) (ad_ne0 (i := 5) (by decide))).trans ((s_51 (a + 5) (ad_lt (i := 5) (j := 6) (by decide))).trans ((s_45 (a + 5) (ad_ne (i := 5) (j := 6) (by decide))).trans ((s_41 (a + 5) (ad_ne0 (i := 5) (by decide))).trans F_38.gc)))))))))))))
  have e6 := ((s_K (a + 6) (ad_lt (i := 6) (j := 167) (by decide)) (ad_ne (i := 6) (j := 3) (by decide))).trans ((s_S (a + 6) (ad_lt (i := 6) (j := 107) (by decide)) (ad_ne (i := 6) (j := 2) (by decide))).trans ((s_T (a + 6) (ad_lt (i := 6) (j := 17) (by decide)) (ad_ne (i := 6) (j := 1) (by decide))).trans ((s_79 (a + 6) (ad_ne0 (i := 6) (by decide))).trans ((s_76 (a + 6) (ad_lt (i := 6) (j := 10) (by decide))).trans ((s_72 (a + 6) (ad_ne (i := 6) (j := 10) (by decide))).trans ((s_68 (a + 6) (ad_ne0 (i := 6) (by decide))).trans ((s_65 (a + 6) (ad_lt (i := 6) (j := 8) (by decide))).trans ((s_58 (a + 6) (ad_ne (i := 6) (j := 8) (by decide))).trans ((s_54 (a + 6) (ad_ne0 (i := 6) (by decide))).trans F_51.gx))))))))))
  have e7 := ((s_K (a + 7) (ad_lt (i := 7) (j := 167) (by decide)) (ad_ne (i := 7) (j := 3) (by decide))).trans ((s_S (a + 7) (ad_lt (i := 7) (j := 107) (by decide)) (ad_ne (i := 7) (j := 2) (by decide))).trans ((s_T (a + 7) (ad_lt (i := 7) (j := 17) (by decide)) (ad_ne (i := 7) (j := 1) (by decide))).trans ((s_79 (a + 7) (ad_ne0 (i := 7) (by decide))).trans ((s_76 (a + 7) (ad_lt (i := 7) (j := 10) (by decide))).trans ((s_72 (a + 7) (ad_ne (i := 7) (j := 10) (by decide))).trans ((s_68 (a + 7) (ad_ne0 (i := 7) (by decide))).trans ((s_65 (a + 7) (ad_lt (i := 7) (j := 8) (by decide))).trans ((s_58 (a + 7) (ad_ne (i := 7) (j := 8) (by decide))).trans ((s_54 (a + 7) (ad_ne0 (i := 7) (by decide))).trans F_51.gc))))))))))
  have e8 := ((s_K (a + 8) (ad_lt (i := 8) (j := 167) (by decide)) (ad_ne (i := 8) (j := 3) (by decide))).trans ((s_S (a + 8) (ad_lt (i := 8) (j := 107) (by decide)) (ad_ne (i := 8) (j := 2) (by decide))).trans ((s_T (a + 8) (ad_lt (i := 8) (j := 17) (by decide)) (ad_ne (i := 8) (j := 1) (by decide))).trans ((s_79 (a + 8) (ad_ne0 (i := 8) (by decide))).trans ((s_76 (a + 8) (ad_lt (i := 8) (j := 10) (by decide))).trans ((s_72 (a + 8) (ad_ne (i := 8) (j := 10) (by decide))).trans ((s_68 (a + 8) (ad_ne0 (i := 8) (by decide))).trans F_65.gx)))))))
  have e9 := ((s_K (a + 9) (ad_lt (i := 9) (j := 167) (by decide)) (ad_ne (i := 9) (j := 3) (by decide))).trans ((s_S (a + 9) (ad_lt (i := 9) (j := 107) (by decide)) (ad_ne (i := 9) (j := 2) (by decide))).trans ((s_T (a + 9) (ad_lt (i := 9) (j := 17) (by decide)) (ad_ne (i := 9) (j := 1) (by decide))).trans ((s_79 (a + 9) (ad_ne0 (i := 9) (by decide))).trans ((s_76 (a + 9) (ad_lt (i := 9) (j := 10) (by decide))).trans ((s_72 (a + 9) (ad_ne (i := 9) (j := 10) (by decide))).trans ((s_68 (a + 9) (ad_ne0 (i := 9) (by decide))).trans F_65.gc)))))))
  have e11 := ((s_K (a + 11) (ad_lt (i := 11) (j := 167) (by decide)) (ad_ne (i := 11) (j := 3) (by decide))).trans ((s_S (a + 11) (ad_lt (i := 11) (j := 107) (by decide)) (ad_ne (i := 11) (j := 2) (by decide))).trans ((s_T (a + 11) (ad_lt (i := 11) (j := 17) (by decide)) (ad_ne (i := 11) (j := 1) (by decide))).trans ((s_79 (a + 11) (ad_ne0 (i := 11) (by decide))).trans F_76.2.1.gx))))
  have e12 := ((s_K (a + 12) (ad_lt (i := 12) (j := 167) (by decide)) (ad_ne (i := 12) (j := 3) (by decide))).trans ((s_S (a + 12) (ad_lt (i := 12) (j := 107) (by decide)) (ad_ne (i := 12) (j := 2) (by decide))).trans ((s_T (a + 12) (ad_lt (i := 12) (j := 17) (by decide)) (ad_ne (i := 12) (j := 1) (by decide))).trans ((s_79 (a + 12) (ad_ne0 (i := 12) (by decide))).trans F_76.2.1.gc))))
  have e13 := ((s_K (a + 13) (ad_lt (i := 13) (j := 167) (by decide)) (ad_ne (i := 13) (j := 3) (by decide))).trans ((s_S (a + 13) (ad_lt (i := 13) (j := 107) (by decide)) (ad_ne (i := 13) (j := 2) (by decide))).trans ((s_T (a + 13) (ad_lt (i := 13) (j := 17) (by decide)) (ad_ne (i := 13) (j := 1) (by decide))).trans ((s_79 (a + 13) (ad_ne0 (i := 13) (by decide))).trans F_76.2.2.1.gx))))
  have e14 := ((s_K (a + 14) (ad_lt (i := 14) (j := 167) (by decide)) (ad_ne (i := 14) (j := 3) (by decide))).trans ((s_S (a + 14) (ad_lt (i := 14) (j := 107) (by decide)) (ad_ne (i := 14) (j := 2) (by decide))).trans ((s_T (a + 14) (ad_lt (i := 14) (j := 17) (by decide)) (ad_ne (i := 14) (j := 1) (by decide))).trans ((s_79 (a + 14) (ad_ne0 (i := 14) (by decide))).trans F_76.2.2.1.gc))))
  have e15 := ((s_K (a + 15) (ad_lt (i := 15) (j := 167) (by decide)) (ad_ne (i := 15) (j := 3) (by decide))).trans ((s_S (a + 15) (ad_lt (i := 15) (j := 107) (by decide)) (ad_ne (i := 15) (j := 2) (by decide))).trans ((s_T (a + 15) (ad_lt (i := 15) (j := 17) (by decide)) (ad_ne (i := 15) (j := 1) (by decide))).trans ((s_79 (a + 15) (ad_ne0 (i := 15) (by decide))).trans F_76.2.2.2.gx))))
  have e16 := ((s_K (a + 16) (ad_lt (i := 16) (j := 167) (by decide)) (ad_ne (i := 16) (j := 3) (by decide))).trans ((s_S (a + 16) (ad_lt (i := 16) (j := 107) (by decide)) (ad_ne (i := 16) (j := 2) (by decide))).trans ((s_T (a + 16) (ad_lt (i := 16) (j := 17) (by decide)) (ad_ne (i := 16) (j := 1) (by decide))).trans ((s_79 (a + 16) (ad_ne0 (i := 16) (by decide))).trans F_76.2.2.2.gc))))
  have low9 : ∀ b, b < a → hGet h_K b = hGet h b := fun b hb => ((s_K b (b_lt (j := 167) hb) (b_ne (j := 3) hb)).trans ((s_S b (b_lt (j := 107) hb) (b_ne (j := 2) hb)).trans ((s_T b (b_lt (j := 17) hb) (b_ne (j := 1) hb)).trans ((s_79 b (Nat.ne_of_lt hb)).trans ((s_76 b (b_lt (j := 10) hb)).trans ((s_72 b (b_ne (j := 10) hb)).trans ((s_68 b (Nat.ne_of_lt hb)).trans ((s_65 b (b_lt (j := 8) hb)).trans ((s_58 b (b_ne (j := 8) hb)).trans ((s_54 b (Nat.ne_of_lt hb)).trans ((s_51 b (b_lt (j := 6) hb)).trans ((s_45 b (b_ne (j := 6) hb)).trans ((s_41 b (Nat.ne_of_lt hb)).trans ((s_38 b (b_lt (j := 4) hb)).trans ((s_32 b (b_ne (j := 4) hb)).trans ((s_28 b (Nat.ne_of_lt hb)).trans ((s_25 b (b_ne (j := 3) hb)).trans ((s_19 b (Nat.ne_of_lt hb)).trans ((s_16 b (b_ne (j := 2) hb)).trans ((s_10 b (Nat.ne_of_lt hb)).trans ((s_7 b (b_ne (j := 1) hb)).trans rfl)))))))))))))))))))))
  have n9 : h_K.2.1 = a + 177 := n_K
  have k9 : h_K.2.2.1 = h.2.2.1 + 1524 := k_K
  have l9 : h_K.1 = h.1 := l_K
  exact k_X9_tail d e0 e1 e2 e3 e10 e4 e5 e6 e7 e8 e9 e11 e12 e13 e14 e15 e16 lo9 low9 l9 n9 k9 (fun q hq => (s_K (a + 17 + q) (fl3 hq) fl4).trans ((s_S (a + 17 + q) (fl1 hq) fl2).trans (z_T q (Nat.zero_le _) hq))) (fun q hq => (s_K (a + 107 + q) (fl5 hq) fl6).trans (z_S q (Nat.zero_le _) hq)) (fun q hq => z_K q (Nat.zero_le _) hq)
end mg_54

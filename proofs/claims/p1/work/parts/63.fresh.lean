/-! ===== the reference: calls on a fresh keeper, by walks of their own ===== -/
set_option maxHeartbeats 4000000 in
set_option maxRecDepth 100000 in
theorem mf_spell {G : mG} {l : Launch} (d : Nat) {h : mH} {x : Nat} {m kp was pool tape pln pap rwd rw : Nat → Int} (hB : isM h x (mFs x 0 0 0 0 0 0 0 0 0 0 0 4) m kp was pool tape pln pap rwd rw) (hF : fresM m rwd tape) {a : Int} (ha : InR a) : RUNM G l (d + 9) mX11_spell [.ref x, .int (J a)] h (fun v h' => v = some (.int (J (-1))) ∧ MO x h h') := by
  obtain ⟨hM, e0, e1, e2, e3, e4, e5, e6, e7, e10, e19, e21, hRo, er, h40, hTa⟩ := hF
  have hB0 := hB
  dsimp only [mFs] at hB
  refine RUNM.of (by decide +kernel) (Nat.le_of_ble_eq_true rfl) ?_
  refine r_aload_n (pc := 0) dX11_spell_0 rfl (by first | rfl | exact isRefV_rf _) ?_
  refine r_iload_n (pc := 1) dX11_spell_1 rfl ?_
  refine r_callV1 (pc := 2) dX11_spell_2 qX11_isThing kX11_238 vX11_isThing (by exact isM.gx (by assumption)) rfl rfl (Nat.le_of_ble_eq_true rfl) (m_isThing _ hB0 ha ⟨by omega, by omega⟩) (fun v_2 h_2 q_2 => ?_)
  obtain ⟨rfl, rfl⟩ := q_2
  refine rj_if_ne (pc := 5) (tgt := 10) dX11_spell_5 (by decide) (by first | assumption | exact b01_r | exact bz_r | omega | (constructor <;> omega) | exact hM _ | exact hPo _ | exact hTa _ | exact hRo _) (fun c_5 => ?_) (fun c_5 => ?_)
  · try simp only [b01_0, bz_0, Classical.not_not] at c_5
    exfalso
    first | omega | exact absurd trivial ‹¬ True›
  · try simp only [b01_0, bz_0, Classical.not_not] at c_5
    refine rj_iconst (pc := 8) dX11_spell_8 ?_
    refine r_ireturn (pc := 9) .int dX11_spell_9 rfl (by first | rfl | assumption) ?_
    exact ⟨rfl, MO.refl⟩
set_option maxHeartbeats 4000000 in
set_option maxRecDepth 100000 in
theorem mf_close {G : mG} {l : Launch} (d : Nat) {h : mH} {x : Nat} {m kp was pool tape pln pap rwd rw : Nat → Int} (hB : isM h x (mFs x 0 0 0 0 0 0 0 0 0 0 0 4) m kp was pool tape pln pap rwd rw) (hF : fresM m rwd tape) {a : Int} (ha : InR a) : RUNM G l (d + 9) mX11_close [.ref x, .int (J a)] h (fun v h' => v = some (.int (J (-1))) ∧ MO x h h') := by
  obtain ⟨hM, e0, e1, e2, e3, e4, e5, e6, e7, e10, e19, e21, hRo, er, h40, hTa⟩ := hF
  have hB0 := hB
  dsimp only [mFs] at hB
  refine RUNM.of (by decide +kernel) (Nat.le_of_ble_eq_true rfl) ?_
  refine r_aload_n (pc := 0) dX11_close_0 rfl (by first | rfl | exact isRefV_rf _) ?_
  refine r_iload_n (pc := 1) dX11_close_1 rfl ?_
  refine r_callV1 (pc := 2) dX11_close_2 qX11_isThing kX11_238 vX11_isThing (by exact isM.gx (by assumption)) rfl rfl (Nat.le_of_ble_eq_true rfl) (m_isThing _ hB0 ha ⟨by omega, by omega⟩) (fun v_2 h_2 q_2 => ?_)
  obtain ⟨rfl, rfl⟩ := q_2
  refine rj_if_ne (pc := 5) (tgt := 10) dX11_close_5 (by decide) (by first | assumption | exact b01_r | exact bz_r | omega | (constructor <;> omega) | exact hM _ | exact hPo _ | exact hTa _ | exact hRo _) (fun c_5 => ?_) (fun c_5 => ?_)
  · try simp only [b01_0, bz_0, Classical.not_not] at c_5
    exfalso
    first | omega | exact absurd trivial ‹¬ True›
  · try simp only [b01_0, bz_0, Classical.not_not] at c_5
    refine rj_iconst (pc := 8) dX11_close_8 ?_
    refine r_ireturn (pc := 9) .int dX11_close_9 rfl (by first | rfl | assumption) ?_
    exact ⟨rfl, MO.refl⟩
set_option maxHeartbeats 4000000 in
set_option maxRecDepth 100000 in
theorem mf_rename {G : mG} {l : Launch} (d : Nat) {h : mH} {x : Nat} {m kp was pool tape pln pap rwd rw : Nat → Int} (hB : isM h x (mFs x 0 0 0 0 0 0 0 0 0 0 0 4) m kp was pool tape pln pap rwd rw) (hF : fresM m rwd tape) {a : Int} (ha : InR a) : RUNM G l (d + 9) mX11_rename [.ref x, .int (J a)] h (fun v h' => v = some (.int (J (-1))) ∧ MO x h h') := by
  obtain ⟨hM, e0, e1, e2, e3, e4, e5, e6, e7, e10, e19, e21, hRo, er, h40, hTa⟩ := hF
  have hB0 := hB
  dsimp only [mFs] at hB
  refine RUNM.of (by decide +kernel) (Nat.le_of_ble_eq_true rfl) ?_
  refine r_aload_n (pc := 0) dX11_rename_0 rfl (by first | rfl | exact isRefV_rf _) ?_
  refine r_iload_n (pc := 1) dX11_rename_1 rfl ?_
  refine r_callV1 (pc := 2) dX11_rename_2 qX11_isThing kX11_238 vX11_isThing (by exact isM.gx (by assumption)) rfl rfl (Nat.le_of_ble_eq_true rfl) (m_isThing _ hB0 ha ⟨by omega, by omega⟩) (fun v_2 h_2 q_2 => ?_)
  obtain ⟨rfl, rfl⟩ := q_2
  refine rj_if_ne (pc := 5) (tgt := 10) dX11_rename_5 (by decide) (by first | assumption | exact b01_r | exact bz_r | omega | (constructor <;> omega) | exact hM _ | exact hPo _ | exact hTa _ | exact hRo _) (fun c_5 => ?_) (fun c_5 => ?_)
  · try simp only [b01_0, bz_0, Classical.not_not] at c_5
    exfalso
    first | omega | exact absurd trivial ‹¬ True›
  · try simp only [b01_0, bz_0, Classical.not_not] at c_5
    refine rj_iconst (pc := 8) dX11_rename_8 ?_
    refine r_ireturn (pc := 9) .int dX11_rename_9 rfl (by first | rfl | assumption) ?_
    exact ⟨rfl, MO.refl⟩
set_option maxHeartbeats 4000000 in
set_option maxRecDepth 100000 in
theorem mf_spellTask {G : mG} {l : Launch} (d : Nat) {h : mH} {x : Nat} {m kp was pool tape pln pap rwd rw : Nat → Int} (hB : isM h x (mFs x 0 0 0 0 0 0 0 0 0 0 0 4) m kp was pool tape pln pap rwd rw) (hF : fresM m rwd tape) {a : Int} (ha : InR a) : RUNM G l (d + 9) mX11_spellTask [.ref x, .int (J a)] h (fun v h' => v = some (.int (J (-1))) ∧ MO x h h') := by
  obtain ⟨hM, e0, e1, e2, e3, e4, e5, e6, e7, e10, e19, e21, hRo, er, h40, hTa⟩ := hF
  have hB0 := hB
  dsimp only [mFs] at hB
  refine RUNM.of (by decide +kernel) (Nat.le_of_ble_eq_true rfl) ?_
  refine r_aload_n (pc := 0) dX11_spellTask_0 rfl (by first | rfl | exact isRefV_rf _) ?_
  refine r_iload_n (pc := 1) dX11_spellTask_1 rfl ?_
  refine r_callV1 (pc := 2) dX11_spellTask_2 qX11_isTask kX11_180 vX11_isTask (by exact isM.gx (by assumption)) rfl rfl (Nat.le_of_ble_eq_true rfl) (m_isTask _ hB0 ha ⟨by omega, by omega⟩) (fun v_2 h_2 q_2 => ?_)
  obtain ⟨rfl, rfl⟩ := q_2
  refine rj_if_ne (pc := 5) (tgt := 10) dX11_spellTask_5 (by decide) (by first | assumption | exact b01_r | exact bz_r | omega | (constructor <;> omega) | exact hM _ | exact hPo _ | exact hTa _ | exact hRo _) (fun c_5 => ?_) (fun c_5 => ?_)
  · try simp only [b01_0, bz_0, Classical.not_not] at c_5
    exfalso
    first | omega | exact absurd trivial ‹¬ True›
  · try simp only [b01_0, bz_0, Classical.not_not] at c_5
    refine rj_iconst (pc := 8) dX11_spellTask_8 ?_
    refine r_ireturn (pc := 9) .int dX11_spellTask_9 rfl (by first | rfl | assumption) ?_
    exact ⟨rfl, MO.refl⟩
set_option maxHeartbeats 4000000 in
set_option maxRecDepth 100000 in
theorem mf_trial {G : mG} {l : Launch} (d : Nat) {h : mH} {x : Nat} {m kp was pool tape pln pap rwd rw : Nat → Int} (hB : isM h x (mFs x 0 0 0 0 0 0 0 0 0 0 0 4) m kp was pool tape pln pap rwd rw) (hF : fresM m rwd tape) {a : Int} (ha : InR a) {b : Int} (hb : InR b) {u : Int} (hu : InR u) : RUNM G l (d + 9) mX11_trial [.ref x, .int (J a), .int (J b), .int (J u)] h (fun v h' => v = some (.int (J (-1))) ∧ MO x h h') := by
  obtain ⟨hM, e0, e1, e2, e3, e4, e5, e6, e7, e10, e19, e21, hRo, er, h40, hTa⟩ := hF
  have hB0 := hB
  dsimp only [mFs] at hB
  refine RUNM.of (by decide +kernel) (Nat.le_of_ble_eq_true rfl) ?_
  refine r_aload_n (pc := 0) dX11_trial_0 rfl (by first | rfl | exact isRefV_rf _) ?_
  refine r_iload_n (pc := 1) dX11_trial_1 rfl ?_
  refine r_callV1 (pc := 2) dX11_trial_2 qX11_isTask kX11_180 vX11_isTask (by exact isM.gx (by assumption)) rfl rfl (Nat.le_of_ble_eq_true rfl) (m_isTask _ hB0 ha ⟨by omega, by omega⟩) (fun v_2 h_2 q_2 => ?_)
  obtain ⟨rfl, rfl⟩ := q_2
  refine rj_if_eq (pc := 5) (tgt := 17) dX11_trial_5 (by decide) (by first | assumption | exact b01_r | exact bz_r | omega | (constructor <;> omega) | exact hM _ | exact hPo _ | exact hTa _ | exact hRo _) (fun c_5 => ?_) (fun c_5 => ?_)
  · try simp only [b01_0, bz_0, Classical.not_not] at c_5
    refine rj_iconst (pc := 17) dX11_trial_17 ?_
    refine r_ireturn (pc := 18) .int dX11_trial_18 rfl (by first | rfl | assumption) ?_
    exact ⟨rfl, MO.refl⟩
  · try simp only [b01_0, bz_0, Classical.not_not] at c_5
    exfalso
    first | omega | exact absurd trivial ‹¬ True›
set_option maxHeartbeats 4000000 in
set_option maxRecDepth 100000 in
theorem mf_find {G : mG} {l : Launch} (d : Nat) {h : mH} {x : Nat} {m kp was pool tape pln pap rwd rw : Nat → Int} (hB : isM h x (mFs x 0 0 0 0 0 0 0 0 0 0 0 4) m kp was pool tape pln pap rwd rw) (hF : fresM m rwd tape) : RUNM G l (d + 9) mX11_find [.ref x] h (fun v h' => v = some (.int (J (-5))) ∧ MO x h h') := by
  obtain ⟨hM, e0, e1, e2, e3, e4, e5, e6, e7, e10, e19, e21, hRo, er, h40, hTa⟩ := hF
  have hB0 := hB
  dsimp only [mFs] at hB
  refine RUNM.of (by decide +kernel) (Nat.le_of_ble_eq_true rfl) ?_
  refine r_aload_n (pc := 0) dX11_find_0 rfl (by first | rfl | exact isRefV_rf _) ?_
  refine rm_getf (pc := 1) dX11_find_1 fX11_61 (by assumption) rfl ?_
  refine r_istore_n (pc := 4) dX11_find_4 (Nat.le_of_ble_eq_true rfl) ?_
  dsimp only [lsSt, List.set, mLs, mEnt]
  refine r_aload_n (pc := 5) dX11_find_5 rfl (by first | rfl | exact isRefV_rf _) ?_
  refine rj_iconst (pc := 6) dX11_find_6 ?_
  refine rm_putf (pc := 7) dX11_find_7 fX11_61 (by assumption) rfl rfl (Nat.le_of_ble_eq_true rfl) (fun h_7 hB_7 hS_7 => ?_)
  dsimp only [List.set, mFs] at hB_7
  refine r_aload_n (pc := 10) dX11_find_10 rfl (by first | rfl | exact isRefV_rf _) ?_
  refine r_aload_n (pc := 11) dX11_find_11 rfl (by first | rfl | exact isRefV_rf _) ?_
  refine rm_getf (pc := 12) dX11_find_12 fX11_24 (by assumption) rfl ?_
  refine rj_iconst (pc := 15) dX11_find_15 ?_
  refine r_iload_n (pc := 16) dX11_find_16 rfl ?_
  refine r_callV3 (pc := 17) dX11_find_17 qX11_heldBy kX11_163 vX11_heldBy (by exact isM.gx (by assumption)) rfl rfl (Nat.le_of_ble_eq_true rfl) (m_heldBy _ (rc := tape) (fr := 0) (to := 0) hB_7 hM (Or.inl ⟨rfl, rfl, by decide⟩) (Nat.zero_le _) (fun q => by rw [hTa q]; decide) (N := 0) (by rw [e1]; rfl) (by decide) (fun t ht => by omega)) (fun v_17 h_17 q_17 => ?_)
  obtain ⟨rfl, rfl⟩ := q_17
  refine r_ireturn (pc := 20) .int dX11_find_20 rfl (by first | rfl | assumption) ?_
  exact ⟨rfl, MO.same hS_7⟩
set_option maxHeartbeats 4000000 in
set_option maxRecDepth 100000 in
theorem mf_from {G : mG} {l : Launch} (d : Nat) {h : mH} {x : Nat} {m kp was pool tape pln pap rwd rw : Nat → Int} (hB : isM h x (mFs x 0 0 0 0 0 0 0 0 0 0 0 4) m kp was pool tape pln pap rwd rw) (hF : fresM m rwd tape) : RUNM G l (d + 9) mX11_from [.ref x] h (fun v h' => v = some (.int (J (-5))) ∧ MO x h h') := by
  obtain ⟨hM, e0, e1, e2, e3, e4, e5, e6, e7, e10, e19, e21, hRo, er, h40, hTa⟩ := hF
  have hB0 := hB
  dsimp only [mFs] at hB
  refine RUNM.of (by decide +kernel) (Nat.le_of_ble_eq_true rfl) ?_
  refine r_aload_n (pc := 0) dX11_from_0 rfl (by first | rfl | exact isRefV_rf _) ?_
  refine rm_getf (pc := 1) dX11_from_1 fX11_61 (by assumption) rfl ?_
  refine r_istore_n (pc := 4) dX11_from_4 (Nat.le_of_ble_eq_true rfl) ?_
  dsimp only [lsSt, List.set, mLs, mEnt]
  refine r_aload_n (pc := 5) dX11_from_5 rfl (by first | rfl | exact isRefV_rf _) ?_
  refine rj_iconst (pc := 6) dX11_from_6 ?_
  refine rm_putf (pc := 7) dX11_from_7 fX11_61 (by assumption) rfl rfl (Nat.le_of_ble_eq_true rfl) (fun h_7 hB_7 hS_7 => ?_)
  dsimp only [List.set, mFs] at hB_7
  refine rj_bipush (pc := 10) dX11_from_10 (by decide +kernel) ?_
  refine r_istore_n (pc := 12) dX11_from_12 (Nat.le_of_ble_eq_true rfl) ?_
  dsimp only [lsSt, List.set, mLs, mEnt]
  refine rj_iconst (pc := 13) dX11_from_13 ?_
  refine r_istore_n (pc := 14) dX11_from_14 (Nat.le_of_ble_eq_true rfl) ?_
  dsimp only [lsSt, List.set, mLs, mEnt]
  refine r_iload_n (pc := 15) dX11_from_15 rfl ?_
  refine r_aload_n (pc := 16) dX11_from_16 rfl (by first | rfl | exact isRefV_rf _) ?_
  refine rm_getf (pc := 17) dX11_from_17 fX11_11 (by assumption) rfl ?_
  refine rj_iconst (pc := 20) dX11_from_20 ?_
  refine rj_iald (pc := 21) (j := 1) dX11_from_21 (by first | exact isM.g0 (by assumption) | exact isM.g3 (by assumption) | exact isM.g4 (by assumption) | exact isM.g8 (by assumption) | exact isM.g7 (by assumption) | exact isM.g6 (by assumption) | exact isM.g5 (by assumption) | exact isM.g1 (by assumption) | exact isM.g2 (by assumption)) (by first | assumption | exact b01_r | exact bz_r | omega | (constructor <;> omega) | exact hM _ | exact hPo _ | exact hTa _ | exact hRo _) (by first | assumption | exact b01_r | exact bz_r | omega | (constructor <;> omega) | exact hM _ | exact hPo _ | exact hTa _ | exact hRo _) (by first | assumption | exact b01_r | exact bz_r | omega | (constructor <;> omega) | exact hM _ | exact hPo _ | exact hTa _ | exact hRo _) rfl ?_
  refine rj_icmp_ge (pc := 22) (tgt := 68) dX11_from_22 (by decide) (by first | assumption | exact b01_r | exact bz_r | omega | (constructor <;> omega) | exact hM _ | exact hPo _ | exact hTa _ | exact hRo _) (by first | assumption | exact b01_r | exact bz_r | omega | (constructor <;> omega) | exact hM _ | exact hPo _ | exact hTa _ | exact hRo _) (fun c_22 => ?_) (fun c_22 => ?_)
  · refine r_iload_n (pc := 68) dX11_from_68 rfl ?_
    refine r_ireturn (pc := 69) .int dX11_from_69 rfl (by first | rfl | assumption) ?_
    exact ⟨rfl, MO.same hS_7⟩
  · exfalso
    first | omega | exact absurd trivial ‹¬ True›
set_option maxHeartbeats 4000000 in
set_option maxRecDepth 100000 in
theorem mf_byName {G : mG} {l : Launch} (d : Nat) {h : mH} {x : Nat} {m kp was pool tape pln pap rwd rw : Nat → Int} (hB : isM h x (mFs x 0 0 0 0 0 0 0 0 0 0 0 4) m kp was pool tape pln pap rwd rw) (hF : fresM m rwd tape) {a : Int} (ha : InR a) : RUNM G l (d + 9) mX11_byName [.ref x, .int (J a)] h (fun v h' => v = some (.int (J (-1))) ∧ MO x h h') := by
  obtain ⟨hM, e0, e1, e2, e3, e4, e5, e6, e7, e10, e19, e21, hRo, er, h40, hTa⟩ := hF
  have hB0 := hB
  dsimp only [mFs] at hB
  refine RUNM.of (by decide +kernel) (Nat.le_of_ble_eq_true rfl) ?_
  refine rj_iconst (pc := 0) dX11_byName_0 ?_
  refine r_istore_n (pc := 1) dX11_byName_1 (Nat.le_of_ble_eq_true rfl) ?_
  dsimp only [lsSt, List.set, mLs, mEnt]
  refine r_iload_n (pc := 2) dX11_byName_2 rfl ?_
  refine r_aload_n (pc := 3) dX11_byName_3 rfl (by first | rfl | exact isRefV_rf _) ?_
  refine rm_getf (pc := 4) dX11_byName_4 fX11_11 (by assumption) rfl ?_
  refine rj_iconst (pc := 7) dX11_byName_7 ?_
  refine rj_iald (pc := 8) (j := 1) dX11_byName_8 (by first | exact isM.g0 (by assumption) | exact isM.g3 (by assumption) | exact isM.g4 (by assumption) | exact isM.g8 (by assumption) | exact isM.g7 (by assumption) | exact isM.g6 (by assumption) | exact isM.g5 (by assumption) | exact isM.g1 (by assumption) | exact isM.g2 (by assumption)) (by first | assumption | exact b01_r | exact bz_r | omega | (constructor <;> omega) | exact hM _ | exact hPo _ | exact hTa _ | exact hRo _) (by first | assumption | exact b01_r | exact bz_r | omega | (constructor <;> omega) | exact hM _ | exact hPo _ | exact hTa _ | exact hRo _) (by first | assumption | exact b01_r | exact bz_r | omega | (constructor <;> omega) | exact hM _ | exact hPo _ | exact hTa _ | exact hRo _) rfl ?_
  refine rj_icmp_ge (pc := 9) (tgt := 82) dX11_byName_9 (by decide) (by first | assumption | exact b01_r | exact bz_r | omega | (constructor <;> omega) | exact hM _ | exact hPo _ | exact hTa _ | exact hRo _) (by first | assumption | exact b01_r | exact bz_r | omega | (constructor <;> omega) | exact hM _ | exact hPo _ | exact hTa _ | exact hRo _) (fun c_9 => ?_) (fun c_9 => ?_)
  · refine rj_iconst (pc := 82) dX11_byName_82 ?_
    refine r_ireturn (pc := 83) .int dX11_byName_83 rfl (by first | rfl | assumption) ?_
    exact ⟨rfl, MO.refl⟩
  · exfalso
    first | omega | exact absurd trivial ‹¬ True›
set_option maxHeartbeats 4000000 in
set_option maxRecDepth 100000 in
theorem mf_tick {G : mG} {l : Launch} (d : Nat) {h : mH} {x : Nat} {m kp was pool tape pln pap rwd rw : Nat → Int} (hB : isM h x (mFs x 0 0 0 0 0 0 0 0 0 0 0 4) m kp was pool tape pln pap rwd rw) (hF : fresM m rwd tape) : RUNM G l (d + 9) mX11_tick [.ref x] h (fun v h' => v = some (.int (J (-5))) ∧ MO x h h') := by
  obtain ⟨hM, e0, e1, e2, e3, e4, e5, e6, e7, e10, e19, e21, hRo, er, h40, hTa⟩ := hF
  have hB0 := hB
  dsimp only [mFs] at hB
  refine RUNM.of (by decide +kernel) (Nat.le_of_ble_eq_true rfl) ?_
  refine r_aload_n (pc := 0) dX11_tick_0 rfl (by first | rfl | exact isRefV_rf _) ?_
  refine r_callV0 (pc := 1) dX11_tick_1 qX11_next kX11_205 vX11_next (by exact isM.gx (by assumption)) rfl rfl (Nat.le_of_ble_eq_true rfl) (m_next _ hB0 hM (N := 0) (by rw [e3]; rfl) (by decide) (fun t ht => by omega)) (fun v_1 h_1 q_1 => ?_)
  obtain ⟨rfl, rfl⟩ := q_1
  refine r_istore_n (pc := 4) dX11_tick_4 (Nat.le_of_ble_eq_true rfl) ?_
  dsimp only [lsSt, List.set, mLs, mEnt]
  refine r_iload_n (pc := 5) dX11_tick_5 rfl ?_
  show RUN _ _ _ _ _ _ [.int (J (-5))] _ _
  refine rj_if_lt (pc := 6) (tgt := 14) dX11_tick_6 (by decide) (by first | assumption | exact b01_r | exact bz_r | omega | (constructor <;> omega) | exact hM _ | exact hPo _ | exact hTa _ | exact hRo _) (fun c_6 => ?_) (fun c_6 => ?_)
  · refine r_iload_n (pc := 14) dX11_tick_14 rfl ?_
    refine r_ireturn (pc := 15) .int dX11_tick_15 rfl (by first | rfl | assumption) ?_
    exact ⟨rfl, MO.refl⟩
  · exfalso; exact c_6 (by decide)
set_option maxHeartbeats 4000000 in
set_option maxRecDepth 100000 in
theorem mf_ticks {G : mG} {l : Launch} (d : Nat) {h : mH} {x : Nat} {m kp was pool tape pln pap rwd rw : Nat → Int} (hB : isM h x (mFs x 0 0 0 0 0 0 0 0 0 0 0 4) m kp was pool tape pln pap rwd rw) (hF : fresM m rwd tape) {a : Int} (ha : InR a) : RUNM G l (d + 10) mX11_ticks [.ref x, .int (J a)] h (fun v h' => v = some (.int (J (0))) ∧ MO x h h') := by
  obtain ⟨hM, e0, e1, e2, e3, e4, e5, e6, e7, e10, e19, e21, hRo, er, h40, hTa⟩ := hF
  have hF2 : fresM m rwd tape := ⟨hM, e0, e1, e2, e3, e4, e5, e6, e7, e10, e19, e21, hRo, er, h40, hTa⟩
  have hB0 := hB
  refine RUNM.of (by decide +kernel) (Nat.le_of_ble_eq_true rfl) ?_
  refine rj_iconst (pc := 0) dX11_ticks_0 ?_
  refine r_istore_n (pc := 1) dX11_ticks_1 (Nat.le_of_ble_eq_true rfl) ?_
  dsimp only [lsSt, List.set, mLs, mEnt]
  refine r_iload_n (pc := 2) dX11_ticks_2 rfl ?_
  refine r_iload_n (pc := 3) dX11_ticks_3 rfl ?_
  refine rj_icmp_ge (pc := 4) (tgt := 20) dX11_ticks_4 (by decide) (by first | assumption | exact b01_r | exact bz_r | omega | (constructor <;> omega) | exact hM _ | exact hPo _ | exact hTa _ | exact hRo _) (by first | assumption | exact b01_r | exact bz_r | omega | (constructor <;> omega) | exact hM _ | exact hPo _ | exact hTa _ | exact hRo _) (fun c_4 => ?_) (fun c_4 => ?_)
  · refine r_iload_n (pc := 20) dX11_ticks_20 rfl ?_
    refine r_ireturn (pc := 21) .int dX11_ticks_21 rfl (by first | rfl | assumption) ?_
    first | exact ⟨rfl, O_8⟩ | exact ⟨rfl, MO.refl⟩
  · dsimp only [mFs] at hB
    refine r_aload_n (pc := 7) dX11_ticks_7 rfl (by first | rfl | exact isRefV_rf _) ?_
    refine r_callV0 (pc := 8) dX11_ticks_8 qX11_tick kX11_211 vX11_tick (by exact isM.gx (by assumption)) rfl rfl (Nat.le_of_ble_eq_true rfl) (mf_tick d hB0 hF2) (fun v_8 h_8 q_8 => ?_)
    obtain ⟨rfl, O_8⟩ := q_8
    refine rj_if_lt (pc := 11) (tgt := 20) dX11_ticks_11 (by decide) (by first | assumption | exact b01_r | exact bz_r | omega | (constructor <;> omega) | exact hM _ | exact hPo _ | exact hTa _ | exact hRo _) (fun c_11 => ?_) (fun c_11 => ?_)
    · refine r_iload_n (pc := 20) dX11_ticks_20 rfl ?_
      refine r_ireturn (pc := 21) .int dX11_ticks_21 rfl (by first | rfl | assumption) ?_
      first | exact ⟨rfl, O_8⟩ | exact ⟨rfl, MO.refl⟩
    · exfalso
      first | omega | exact absurd trivial ‹¬ True›
set_option maxHeartbeats 4000000 in
set_option maxRecDepth 100000 in
theorem mf_run {G : mG} {l : Launch} (d : Nat) {h : mH} {x : Nat} {m kp was pool tape pln pap rwd rw : Nat → Int} (hB : isM h x (mFs x 0 0 0 0 0 0 0 0 0 0 0 4) m kp was pool tape pln pap rwd rw) (hF : fresM m rwd tape) {a : Int} (ha : InR a) : RUNM G l (d + 11) mX11_run [.ref x, .int (J a)] h (fun v h' => v = some (.int (J (if a < 0 ∨ 100 < a then -2 else 0))) ∧ MO x h h') := by
  have hB0 := hB
  refine RUNM.of (by decide +kernel) (Nat.le_of_ble_eq_true rfl) ?_
  dsimp only [mFs] at hB
  refine r_iload_n (pc := 0) dX11_run_0 rfl ?_
  refine rj_iconst (pc := 1) dX11_run_1 ?_
  refine rj_bipush (pc := 2) dX11_run_2 (by decide +kernel) ?_
  refine r_callS3 (pc := 4) dX11_run_4 qX11_isIn kX11_46 sX11_isIn (Nat.le_of_ble_eq_true rfl) (m_isIn _ ha (by decide) (by decide)) (fun v_4 h_4 q_4 => ?_)
  obtain ⟨rfl, rfl⟩ := q_4
  refine rj_if_eq (pc := 7) (tgt := 18) dX11_run_7 (by decide) (by first | assumption | exact b01_r | exact bz_r | omega | (constructor <;> omega) | exact hM _ | exact hPo _ | exact hTa _ | exact hRo _) (fun c_7 => ?_) (fun c_7 => ?_)
  · try simp only [b01_0, bz_0, Classical.not_not] at c_7
    refine rj_bipush (pc := 18) dX11_run_18 (by decide +kernel) ?_
    refine r_ireturn (pc := 20) .int dX11_run_20 rfl (by first | rfl | assumption) ?_
    first | exact ⟨by rw [if_neg (by omega)], O_12⟩ | exact ⟨by rw [if_pos (by omega)], MO.refl⟩
  · try simp only [b01_0, bz_0, Classical.not_not] at c_7
    refine r_aload_n (pc := 10) dX11_run_10 rfl (by first | rfl | exact isRefV_rf _) ?_
    refine r_iload_n (pc := 11) dX11_run_11 rfl ?_
    refine r_callV1 (pc := 12) dX11_run_12 qX11_ticks kX11_214 vX11_ticks (by exact isM.gx (by assumption)) rfl rfl (Nat.le_of_ble_eq_true rfl) (mf_ticks d hB0 hF ha) (fun v_12 h_12 q_12 => ?_)
    obtain ⟨rfl, O_12⟩ := q_12
    refine r_goto (pc := 15) (tgt := 20) dX11_run_15 (by decide) ?_
    refine r_ireturn (pc := 20) .int dX11_run_20 rfl (by first | rfl | assumption) ?_
    first | exact ⟨by rw [if_neg (by omega)], O_12⟩ | exact ⟨by rw [if_pos (by omega)], MO.refl⟩
set_option maxHeartbeats 4000000 in
set_option maxRecDepth 100000 in
theorem mf_copy {G : mG} {l : Launch} (d : Nat) {h : mH} {x : Nat} {m kp was pool tape pln pap rwd rw : Nat → Int} (hB : isM h x (mFs x 0 0 0 0 0 0 0 0 0 0 0 4) m kp was pool tape pln pap rwd rw) (hF : fresM m rwd tape) {a : Int} (ha : InR a) {b : Int} (hb : InR b) {u : Int} (hu : InR u) {t : Int} (ht : InR t) {n : Int} (hn : InR n) : RUNM G l (d + 9) mX11_copy [.ref x, .int (J a), .int (J b), .int (J u), .int (J t), .int (J n)] h (fun v h' => v = some (.int (J (if (0 ≤ a ∧ a < 4) ∧ (0 ≤ u ∧ u < 4) then -11 else -1))) ∧ MO x h h') := by
  obtain ⟨hM, e0, e1, e2, e3, e4, e5, e6, e7, e10, e19, e21, hRo, er, h40, hTa⟩ := hF
  have hB0 := hB
  dsimp only [mFs] at hB
  refine RUNM.of (by decide +kernel) (Nat.le_of_ble_eq_true rfl) ?_
  refine r_iload_n (pc := 0) dX11_copy_0 rfl ?_
  refine r_callS1 (pc := 1) dX11_copy_1 qX11_isRow kX11_304 sX11_isRow (Nat.le_of_ble_eq_true rfl) (m_isRow _ ha) (fun v_1 h_1 q_1 => ?_)
  obtain ⟨rfl, rfl⟩ := q_1
  refine rj_if_eq (pc := 4) (tgt := 14) dX11_copy_4 (by decide) (by first | assumption | exact b01_r | exact bz_r | omega | (constructor <;> omega) | exact hM _ | exact hPo _ | exact hTa _ | exact hRo _) (fun c_4 => ?_) (fun c_4 => ?_)
  · try simp only [b01_0, bz_0, Classical.not_not] at c_4
    refine rj_iconst (pc := 14) dX11_copy_14 ?_
    refine r_ireturn (pc := 15) .int dX11_copy_15 rfl (by first | rfl | assumption) ?_
    exact ⟨by rw [if_neg (by omega)], MO.refl⟩
  · try simp only [b01_0, bz_0, Classical.not_not] at c_4
    refine r_iload_n (pc := 7) dX11_copy_7 rfl ?_
    refine r_callS1 (pc := 8) dX11_copy_8 qX11_isRow kX11_304 sX11_isRow (Nat.le_of_ble_eq_true rfl) (m_isRow _ hu) (fun v_8 h_8 q_8 => ?_)
    obtain ⟨rfl, rfl⟩ := q_8
    refine rj_if_ne (pc := 11) (tgt := 16) dX11_copy_11 (by decide) (by first | assumption | exact b01_r | exact bz_r | omega | (constructor <;> omega) | exact hM _ | exact hPo _ | exact hTa _ | exact hRo _) (fun c_11 => ?_) (fun c_11 => ?_)
    · try simp only [b01_0, bz_0, Classical.not_not] at c_11
      refine r_aload_n (pc := 16) dX11_copy_16 rfl (by first | rfl | exact isRefV_rf _) ?_
      refine rm_getf (pc := 17) dX11_copy_17 fX11_36 (by assumption) rfl ?_
      refine r_iload_n (pc := 20) dX11_copy_20 rfl ?_
      refine rj_iald (pc := 21) (j := a.toNat) dX11_copy_21 (by first | exact isM.g0 (by assumption) | exact isM.g3 (by assumption) | exact isM.g4 (by assumption) | exact isM.g8 (by assumption) | exact isM.g7 (by assumption) | exact isM.g6 (by assumption) | exact isM.g5 (by assumption) | exact isM.g1 (by assumption) | exact isM.g2 (by assumption)) (by first | assumption | exact b01_r | exact bz_r | omega | (constructor <;> omega) | exact hM _ | exact hPo _ | exact hTa _ | exact hRo _) (by first | assumption | exact b01_r | exact bz_r | omega | (constructor <;> omega) | exact hM _ | exact hPo _ | exact hTa _ | exact hRo _) (by first | assumption | exact b01_r | exact bz_r | omega | (constructor <;> omega) | exact hM _ | exact hPo _ | exact hTa _ | exact hRo _) (by omega) ?_
      have y := er a.toNat (by omega)
      refine rj_if_lt (pc := 22) (tgt := 34) dX11_copy_22 (by decide) (by first | assumption | exact b01_r | exact bz_r | omega | (constructor <;> omega) | exact hM _ | exact hPo _ | exact hTa _ | exact hRo _) (fun c_22 => ?_) (fun c_22 => ?_)
      · refine rj_bipush (pc := 34) dX11_copy_34 (by decide +kernel) ?_
        refine r_ireturn (pc := 36) .int dX11_copy_36 rfl (by first | rfl | assumption) ?_
        exact ⟨by rw [if_pos (by omega)], MO.refl⟩
      · exfalso
        first | omega | exact absurd trivial ‹¬ True›
    · try simp only [b01_0, bz_0, Classical.not_not] at c_11
      refine rj_iconst (pc := 14) dX11_copy_14 ?_
      refine r_ireturn (pc := 15) .int dX11_copy_15 rfl (by first | rfl | assumption) ?_
      exact ⟨by rw [if_neg (by omega)], MO.refl⟩
set_option maxHeartbeats 4000000 in
set_option maxRecDepth 100000 in
theorem mf_lay {G : mG} {l : Launch} (d : Nat) {h : mH} {x : Nat} {m kp was pool tape pln pap rwd rw : Nat → Int} (hB : isM h x (mFs x 0 0 0 0 0 0 0 0 0 0 0 4) m kp was pool tape pln pap rwd rw) (hF : fresM m rwd tape) {a : Int} (ha : InR a) {b : Int} (hb : InR b) : RUNM G l (d + 9) mX11_lay [.ref x, .int (J a), .int (J b)] h (fun v h' => v = some (.int (J (if 0 ≤ a ∧ a < 4 then -11 else -1))) ∧ MO x h h') := by
  obtain ⟨hM, e0, e1, e2, e3, e4, e5, e6, e7, e10, e19, e21, hRo, er, h40, hTa⟩ := hF
  have wr := wrong_r (rwd := rwd) (a := a)
  have hB0 := hB
  dsimp only [mFs] at hB
  refine RUNM.of (by decide +kernel) (Nat.le_of_ble_eq_true rfl) ?_
  refine r_aload_n (pc := 0) dX11_lay_0 rfl (by first | rfl | exact isRefV_rf _) ?_
  refine r_iload_n (pc := 1) dX11_lay_1 rfl ?_
  refine r_callV1 (pc := 2) dX11_lay_2 qX11_wrong kX11_307 vX11_wrong (by exact isM.gx (by assumption)) rfl rfl (Nat.le_of_ble_eq_true rfl) (m_wrong _ hB0 hRo ha) (fun v_2 h_2 q_2 => ?_)
  obtain ⟨rfl, rfl⟩ := q_2
  refine r_istore_n (pc := 5) dX11_lay_5 (Nat.le_of_ble_eq_true rfl) ?_
  dsimp only [lsSt, List.set, mLs, mEnt]
  refine r_iload_n (pc := 6) dX11_lay_6 rfl ?_
  refine rj_if_eq (pc := 7) (tgt := 12) dX11_lay_7 (by decide) (by first | assumption | exact b01_r | exact bz_r | omega | (constructor <;> omega) | exact hM _ | exact hPo _ | exact hTa _ | exact hRo _) (fun c_7 => ?_) (fun c_7 => ?_)
  · try simp only [b01_0, bz_0, Classical.not_not] at c_7
    exact absurd c_7 (wrong0_n er a)
  · try simp only [b01_0, bz_0, Classical.not_not] at c_7
    refine r_iload_n (pc := 10) dX11_lay_10 rfl ?_
    refine r_ireturn (pc := 11) .int dX11_lay_11 rfl (by first | rfl | assumption) ?_
    exact ⟨by rw [wrong0 er a], MO.refl⟩
set_option maxHeartbeats 4000000 in
set_option maxRecDepth 100000 in
theorem mf_judge {G : mG} {l : Launch} (d : Nat) {h : mH} {x : Nat} {m kp was pool tape pln pap rwd rw : Nat → Int} (hB : isM h x (mFs x 0 0 0 0 0 0 0 0 0 0 0 4) m kp was pool tape pln pap rwd rw) (hF : fresM m rwd tape) {a : Int} (ha : InR a) {b : Int} (hb : InR b) : RUNM G l (d + 9) mX11_judge [.ref x, .int (J a), .int (J b)] h (fun v h' => v = some (.int (J (if 0 ≤ a ∧ a < 4 then -11 else -1))) ∧ MO x h h') := by
  obtain ⟨hM, e0, e1, e2, e3, e4, e5, e6, e7, e10, e19, e21, hRo, er, h40, hTa⟩ := hF
  have wr := wrong_r (rwd := rwd) (a := a)
  have hB0 := hB
  dsimp only [mFs] at hB
  refine RUNM.of (by decide +kernel) (Nat.le_of_ble_eq_true rfl) ?_
  refine r_aload_n (pc := 0) dX11_judge_0 rfl (by first | rfl | exact isRefV_rf _) ?_
  refine r_iload_n (pc := 1) dX11_judge_1 rfl ?_
  refine r_callV1 (pc := 2) dX11_judge_2 qX11_wrong kX11_307 vX11_wrong (by exact isM.gx (by assumption)) rfl rfl (Nat.le_of_ble_eq_true rfl) (m_wrong _ hB0 hRo ha) (fun v_2 h_2 q_2 => ?_)
  obtain ⟨rfl, rfl⟩ := q_2
  refine r_istore_n (pc := 5) dX11_judge_5 (Nat.le_of_ble_eq_true rfl) ?_
  dsimp only [lsSt, List.set, mLs, mEnt]
  refine r_iload_n (pc := 6) dX11_judge_6 rfl ?_
  refine rj_if_eq (pc := 7) (tgt := 12) dX11_judge_7 (by decide) (by first | assumption | exact b01_r | exact bz_r | omega | (constructor <;> omega) | exact hM _ | exact hPo _ | exact hTa _ | exact hRo _) (fun c_7 => ?_) (fun c_7 => ?_)
  · try simp only [b01_0, bz_0, Classical.not_not] at c_7
    exact absurd c_7 (wrong0_n er a)
  · try simp only [b01_0, bz_0, Classical.not_not] at c_7
    refine r_iload_n (pc := 10) dX11_judge_10 rfl ?_
    refine r_ireturn (pc := 11) .int dX11_judge_11 rfl (by first | rfl | assumption) ?_
    exact ⟨by rw [wrong0 er a], MO.refl⟩
set_option maxHeartbeats 4000000 in
set_option maxRecDepth 100000 in
theorem mf_undo {G : mG} {l : Launch} (d : Nat) {h : mH} {x : Nat} {m kp was pool tape pln pap rwd rw : Nat → Int} (hB : isM h x (mFs x 0 0 0 0 0 0 0 0 0 0 0 4) m kp was pool tape pln pap rwd rw) (hF : fresM m rwd tape) : RUNM G l (d + 9) mX11_undo [.ref x] h (fun v h' => v = some (.int (J (-3))) ∧ MO x h h') := by
  obtain ⟨hM, e0, e1, e2, e3, e4, e5, e6, e7, e10, e19, e21, hRo, er, h40, hTa⟩ := hF
  have hB0 := hB
  dsimp only [mFs] at hB
  refine RUNM.of (by decide +kernel) (Nat.le_of_ble_eq_true rfl) ?_
  refine r_aload_n (pc := 0) dX11_undo_0 rfl (by first | rfl | exact isRefV_rf _) ?_
  refine rm_getf (pc := 1) dX11_undo_1 fX11_310 (by assumption) rfl ?_
  refine rj_if_ne (pc := 4) (tgt := 10) dX11_undo_4 (by decide) (by first | assumption | exact b01_r | exact bz_r | omega | (constructor <;> omega) | exact hM _ | exact hPo _ | exact hTa _ | exact hRo _) (fun c_4 => ?_) (fun c_4 => ?_)
  · try simp only [b01_0, bz_0, Classical.not_not] at c_4
    exfalso
    first | omega | exact absurd trivial ‹¬ True›
  · try simp only [b01_0, bz_0, Classical.not_not] at c_4
    refine rj_bipush (pc := 7) dX11_undo_7 (by decide +kernel) ?_
    refine r_ireturn (pc := 9) .int dX11_undo_9 rfl (by first | rfl | assumption) ?_
    exact ⟨rfl, MO.refl⟩
theorem isM.of0 {h h' : mH} {x : Nat} {fs : List Value} {m kp was pool tape pln pap rwd rw r' : Nat → Int} (k : isM h x fs m kp was pool tape pln pap rwd rw) (o : hGet h' (mAd x 0) = some (.inr (.inl (2928, fun q => J (r' q))))) (S : Same (fun b => b = mAd x 0) h h') : isM h' x fs r' kp was pool tape pln pap rwd rw :=
  ⟨by rw [S.1]; exact k.lo, (S.2.2.2 _ x_mAd).trans k.gx, o, (S.2.2.2 _ (mAd_ne (by decide))).trans k.g1, (S.2.2.2 _ (mAd_ne (by decide))).trans k.g2, (S.2.2.2 _ (mAd_ne (by decide))).trans k.g3, (S.2.2.2 _ (mAd_ne (by decide))).trans k.g4, (S.2.2.2 _ (mAd_ne (by decide))).trans k.g5, (S.2.2.2 _ (mAd_ne (by decide))).trans k.g6, (S.2.2.2 _ (mAd_ne (by decide))).trans k.g7, (S.2.2.2 _ (mAd_ne (by decide))).trans k.g8⟩
theorem isM.of1 {h h' : mH} {x : Nat} {fs : List Value} {m kp was pool tape pln pap rwd rw r' : Nat → Int} (k : isM h x fs m kp was pool tape pln pap rwd rw) (o : hGet h' (mAd x 1) = some (.inr (.inl (2928, fun q => J (r' q))))) (S : Same (fun b => b = mAd x 1) h h') : isM h' x fs m r' was pool tape pln pap rwd rw :=
  ⟨by rw [S.1]; exact k.lo, (S.2.2.2 _ x_mAd).trans k.gx, (S.2.2.2 _ (mAd_ne (by decide))).trans k.g0, o, (S.2.2.2 _ (mAd_ne (by decide))).trans k.g2, (S.2.2.2 _ (mAd_ne (by decide))).trans k.g3, (S.2.2.2 _ (mAd_ne (by decide))).trans k.g4, (S.2.2.2 _ (mAd_ne (by decide))).trans k.g5, (S.2.2.2 _ (mAd_ne (by decide))).trans k.g6, (S.2.2.2 _ (mAd_ne (by decide))).trans k.g7, (S.2.2.2 _ (mAd_ne (by decide))).trans k.g8⟩
theorem isM.of2 {h h' : mH} {x : Nat} {fs : List Value} {m kp was pool tape pln pap rwd rw r' : Nat → Int} (k : isM h x fs m kp was pool tape pln pap rwd rw) (o : hGet h' (mAd x 2) = some (.inr (.inl (2928, fun q => J (r' q))))) (S : Same (fun b => b = mAd x 2) h h') : isM h' x fs m kp r' pool tape pln pap rwd rw :=
  ⟨by rw [S.1]; exact k.lo, (S.2.2.2 _ x_mAd).trans k.gx, (S.2.2.2 _ (mAd_ne (by decide))).trans k.g0, (S.2.2.2 _ (mAd_ne (by decide))).trans k.g1, o, (S.2.2.2 _ (mAd_ne (by decide))).trans k.g3, (S.2.2.2 _ (mAd_ne (by decide))).trans k.g4, (S.2.2.2 _ (mAd_ne (by decide))).trans k.g5, (S.2.2.2 _ (mAd_ne (by decide))).trans k.g6, (S.2.2.2 _ (mAd_ne (by decide))).trans k.g7, (S.2.2.2 _ (mAd_ne (by decide))).trans k.g8⟩
set_option maxHeartbeats 4000000 in
set_option maxRecDepth 100000 in
theorem mf_image {G : mG} {l : Launch} (d : Nat) {h : mH} {x : Nat} {m kp was pool tape pln pap rwd rw : Nat → Int} (hB : isM h x (mFs x 0 0 0 0 0 0 0 0 0 0 0 4) m kp was pool tape pln pap rwd rw) (hF : fresM m rwd tape) : RUNM G l (d + 9) mX11_image [.ref x] h (fun v h' => v = some (.int (J (0))) ∧ MO x h h') := by
  obtain ⟨hM, e0, e1, e2, e3, e4, e5, e6, e7, e10, e19, e21, hRo, er, h40, hTa⟩ := hF
  have hB0 := hB
  dsimp only [mFs] at hB
  refine RUNM.of (by decide +kernel) (Nat.le_of_ble_eq_true rfl) ?_
  refine r_aload_n (pc := 0) dX11_image_0 rfl (by first | rfl | exact isRefV_rf _) ?_
  refine rm_getf (pc := 1) dX11_image_1 fX11_11 (by assumption) rfl ?_
  refine r_aload_n (pc := 4) dX11_image_4 rfl (by first | rfl | exact isRefV_rf _) ?_
  refine rm_getf (pc := 5) dX11_image_5 fX11_15 (by assumption) rfl ?_
  refine r_callS2 (pc := 8) dX11_image_8 qX11_copies kX11_279 sX11_copies (Nat.le_of_ble_eq_true rfl) (m_copies _ (mAd_ne (by decide)) hB0.g0 hB0.g1 (hB0.loA 1)) (fun v_8 h_8 q_8 => ?_)
  obtain ⟨rfl, o_8, S_8⟩ := q_8
  have B_8 := hB0.of1 o_8 S_8
  dsimp only [mFs] at B_8
  refine r_aload_n (pc := 11) dX11_image_11 rfl (by first | rfl | exact isRefV_rf _) ?_
  refine rj_iconst (pc := 12) dX11_image_12 ?_
  refine rm_putf (pc := 13) dX11_image_13 fX11_310 (by assumption) nar_J1 fit_J1 (Nat.le_of_ble_eq_true rfl) (fun h_13 hB_13 hS_13 => ?_)
  dsimp only [List.set, mFs] at hB_13
  refine r_aload_n (pc := 16) dX11_image_16 rfl (by first | rfl | exact isRefV_rf _) ?_
  refine r_callV0 (pc := 17) dX11_image_17 qX11_held kX11_276 vX11_held (by exact isM.gx (by assumption)) rfl rfl (Nat.le_of_ble_eq_true rfl) (m_held _ hB_13 hM (N := 0) (by rw [e1]; rfl) (by decide)) (fun v_17 h_17 q_17 => ?_)
  obtain ⟨rfl, rfl⟩ := q_17
  refine r_ireturn (pc := 20) .int dX11_image_20 rfl (by first | rfl | assumption) ?_
  exact ⟨rfl, MO.trans (MO.cp (k := 1) (by decide) S_8) (MO.same hS_13)⟩
theorem updM_r {m : Nat → Int} (hM : ∀ q, InR (m q)) {k : Nat} {v : Int} (hv : InR v) (q : Nat) : InR (updI m k v q) := by
  unfold updI; split
  · exact hv
  · exact hM q
set_option maxHeartbeats 4000000 in
set_option maxRecDepth 100000 in
theorem mf_shuts {G : mG} {l : Launch} (d : Nat) {h : mH} {x : Nat} {m kp was pool tape pln pap rwd rw : Nat → Int} {f14 : Int} (hB : isM h x (mFs x 0 0 0 0 0 0 0 0 f14 0 0 4) m kp was pool tape pln pap rwd rw) (hM : ∀ q, InR (m q)) (e0 : m 0 = 1) (e1 : m 1 = 0) (e18 : m 18 = 0) : RUNM G l (d + 9) mX11_shuts [.ref x, .int (J 0)] h (fun v h' => v = none ∧ isM h' x (mFs x 0 0 0 0 0 0 0 0 f14 0 0 4) (updI (updI m 18 1) 18 0) kp was pool tape pln pap rwd rw ∧ Same (mBlk x) h h') := by
  have hB0 := hB
  dsimp only [mFs] at hB
  refine RUNM.of (by decide +kernel) (Nat.le_of_ble_eq_true rfl) ?_
  refine r_aload_n (pc := 0) dX11_shuts_0 rfl (by first | rfl | exact isRefV_rf _) ?_
  refine r_iload_n (pc := 1) dX11_shuts_1 rfl ?_
  refine r_callV1 (pc := 2) dX11_shuts_2 qX11_isOpen kX11_146 vX11_isOpen (by exact isM.gx (by assumption)) rfl rfl (Nat.le_of_ble_eq_true rfl) (m_isOpen _ hB0 hM (by omega) (a := 0) (by decide)) (fun v_2 h_2 q_2 => ?_)
  obtain ⟨rfl, rfl⟩ := q_2
  refine rj_if_ne (pc := 5) (tgt := 9) dX11_shuts_5 (by decide) (by first | assumption | exact b01_r | exact bz_r | omega | (constructor <;> omega) | exact hM _ | exact hPo _ | exact hTa _ | exact hRo _) (fun c_5 => ?_) (fun c_5 => ?_)
  · try simp only [b01_0, bz_0, Classical.not_not] at c_5
    refine r_aload_n (pc := 9) dX11_shuts_9 rfl (by first | rfl | exact isRefV_rf _) ?_
    refine rm_getf (pc := 10) dX11_shuts_10 fX11_11 (by assumption) rfl ?_
    refine r_iload_n (pc := 13) dX11_shuts_13 rfl ?_
    refine rj_iconst (pc := 14) dX11_shuts_14 ?_
    refine r_callS2 (pc := 15) dX11_shuts_15 qX11_ofScope kX11_42 sX11_ofScope (Nat.le_of_ble_eq_true rfl) (m_ofScope _) (fun v_15 h_15 q_15 => ?_)
    obtain ⟨rfl, rfl⟩ := q_15
    refine rj_iconst (pc := 18) dX11_shuts_18 ?_
    first | refine rm_iast0 (pc := 19) (j := 18) dX11_shuts_19 (by assumption) (by first | assumption | exact b01_r | exact bz_r | omega | (constructor <;> omega) | exact hM _ | exact hPo _ | exact hTa _ | exact hRo _) (by first | assumption | exact b01_r | exact bz_r | omega | (constructor <;> omega) | exact hM _ | exact hPo _ | exact hTa _ | exact hRo _) (by first | assumption | exact b01_r | exact bz_r | omega | (constructor <;> omega) | exact hM _ | exact hPo _ | exact hTa _ | exact hRo _) (by omega) (fun h_19 hB_19 hS_19 => ?_)
    have hM1 := updM_r hM (k := 18) (v := 1) (by decide)
    refine r_aload_n (pc := 20) dX11_shuts_20 rfl (by first | rfl | exact isRefV_rf _) ?_
    refine r_iload_n (pc := 21) dX11_shuts_21 rfl ?_
    refine r_callV1 (pc := 22) dX11_shuts_22 qX11_lastOf kX11_149 vX11_lastOf (by exact isM.gx (by assumption)) rfl rfl (Nat.le_of_ble_eq_true rfl) (m_lastOf _ hB_19 hM1 (N := 0) (by rw [updI_n (by decide), e1]; rfl) (by decide) (C := 1) (by rw [updI_n (by decide), e0]; rfl) (by decide) (by decide) (a := 0) (by decide)) (fun v_22 h_22 q_22 => ?_)
    obtain ⟨rfl, rfl⟩ := q_22
    rw [show lastM (updI m 18 1) 0 0 1 = -5 from rfl]
    refine r_istore_n (pc := 25) dX11_shuts_25 (Nat.le_of_ble_eq_true rfl) ?_
    dsimp only [lsSt, List.set, mLs, mEnt]
    refine r_iload_n (pc := 26) dX11_shuts_26 rfl ?_
    refine rj_if_lt (pc := 27) (tgt := 61) dX11_shuts_27 (by decide) (by first | assumption | exact b01_r | exact bz_r | omega | (constructor <;> omega) | exact hM _ | exact hPo _ | exact hTa _ | exact hRo _) (fun c_27 => ?_) (fun c_27 => ?_)
    · refine r_aload_n (pc := 61) dX11_shuts_61 rfl (by first | rfl | exact isRefV_rf _) ?_
      refine rm_getf (pc := 62) dX11_shuts_62 fX11_11 (by assumption) rfl ?_
      refine r_iload_n (pc := 65) dX11_shuts_65 rfl ?_
      refine rj_iconst (pc := 66) dX11_shuts_66 ?_
      refine r_callS2 (pc := 67) dX11_shuts_67 qX11_ofScope kX11_42 sX11_ofScope (Nat.le_of_ble_eq_true rfl) (m_ofScope _) (fun v_67 h_67 q_67 => ?_)
      obtain ⟨rfl, rfl⟩ := q_67
      refine r_iload_n (pc := 70) dX11_shuts_70 rfl ?_
      refine rj_if_ne (pc := 71) (tgt := 78) dX11_shuts_71 (by decide) (by first | assumption | exact b01_r | exact bz_r | omega | (constructor <;> omega) | exact hM _ | exact hPo _ | exact hTa _ | exact hRo _) (fun c_71 => ?_) (fun c_71 => ?_)
      · try simp only [b01_0, bz_0, Classical.not_not] at c_71
        exfalso
        first | omega | exact absurd trivial ‹¬ True›
      · try simp only [b01_0, bz_0, Classical.not_not] at c_71
        refine rj_iconst (pc := 74) dX11_shuts_74 ?_
        refine r_goto (pc := 75) (tgt := 79) dX11_shuts_75 (by decide) ?_
        first | refine rm_iast0 (pc := 79) (j := 18) dX11_shuts_79 (by assumption) (by first | assumption | exact b01_r | exact bz_r | omega | (constructor <;> omega) | exact hM _ | exact hPo _ | exact hTa _ | exact hRo _) (by first | assumption | exact b01_r | exact bz_r | omega | (constructor <;> omega) | exact hM _ | exact hPo _ | exact hTa _ | exact hRo _) (by first | assumption | exact b01_r | exact bz_r | omega | (constructor <;> omega) | exact hM _ | exact hPo _ | exact hTa _ | exact hRo _) (by omega) (fun h_79 hB_79 hS_79 => ?_)
        refine r_return (pc := 80) dX11_shuts_80 rfl ?_
        exact ⟨rfl, hB_79, hS_19.trans hS_79⟩
    · exfalso; omega
  · try simp only [b01_0, bz_0, Classical.not_not] at c_5
    exact absurd ⟨by decide, by omega, e18⟩ c_5
set_option maxHeartbeats 4000000 in
set_option maxRecDepth 100000 in
theorem mf_shutW {G : mG} {l : Launch} (d : Nat) {h : mH} {x : Nat} {m kp was pool tape pln pap rwd rw : Nat → Int} (hB : isM h x (mFs x 0 0 0 0 0 0 0 0 0 0 0 4) m kp was pool tape pln pap rwd rw) (hF : fresM m rwd tape) : RUNM G l (d + 10) mX11_shut [.ref x, .int (J 0)] h (fun v h' => v = some (.int (J 0)) ∧ (∃ m', isM h' x (mFs x 0 0 0 0 0 0 0 0 (-1) 0 0 4) m' kp was pool tape pln pap rwd rw ∧ (∀ q, InR (m' q)) ∧ m' 1 = 0 ∧ m' 2 = 0 ∧ m' 5 = 0) ∧ Same (mBlk x) h h') := by
  obtain ⟨hM, e0, e1, e2, e3, e4, e5, e6, e7, e10, e19, e21, hRo, er, h40, hTa⟩ := hF
  have hB0 := hB
  have e18 := e10 18 (by decide) (by decide)
  dsimp only [mFs] at hB
  refine RUNM.of (by decide +kernel) (Nat.le_of_ble_eq_true rfl) ?_
  refine r_aload_n (pc := 0) dX11_shut_0 rfl (by first | rfl | exact isRefV_rf _) ?_
  refine r_iload_n (pc := 1) dX11_shut_1 rfl ?_
  refine r_callV1 (pc := 2) dX11_shut_2 qX11_isScope kX11_50 vX11_isScope (by exact isM.gx (by assumption)) rfl rfl (Nat.le_of_ble_eq_true rfl) (m_isScope _ hB0 (a := 0) (by decide) ⟨by omega, by omega⟩) (fun v_2 h_2 q_2 => ?_)
  obtain ⟨rfl, rfl⟩ := q_2
  refine rj_if_ne (pc := 5) (tgt := 10) dX11_shut_5 (by decide) (by first | assumption | exact b01_r | exact bz_r | omega | (constructor <;> omega) | exact hM _ | exact hPo _ | exact hTa _ | exact hRo _) (fun c_5 => ?_) (fun c_5 => ?_)
  · try simp only [b01_0, bz_0, Classical.not_not] at c_5
    refine r_aload_n (pc := 10) dX11_shut_10 rfl (by first | rfl | exact isRefV_rf _) ?_
    refine r_iload_n (pc := 11) dX11_shut_11 rfl ?_
    refine r_callV1 (pc := 12) dX11_shut_12 qX11_isOpen kX11_146 vX11_isOpen (by exact isM.gx (by assumption)) rfl rfl (Nat.le_of_ble_eq_true rfl) (m_isOpen _ hB0 hM (by omega) (a := 0) (by decide)) (fun v_12 h_12 q_12 => ?_)
    obtain ⟨rfl, rfl⟩ := q_12
    refine rj_if_ne (pc := 15) (tgt := 21) dX11_shut_15 (by decide) (by first | assumption | exact b01_r | exact bz_r | omega | (constructor <;> omega) | exact hM _ | exact hPo _ | exact hTa _ | exact hRo _) (fun c_15 => ?_) (fun c_15 => ?_)
    · try simp only [b01_0, bz_0, Classical.not_not] at c_15
      refine r_aload_n (pc := 21) dX11_shut_21 rfl (by first | rfl | exact isRefV_rf _) ?_
      refine rj_iconst (pc := 22) dX11_shut_22 ?_
      refine rm_putf (pc := 23) dX11_shut_23 fX11_133 (by assumption) rfl rfl (Nat.le_of_ble_eq_true rfl) (fun h_23 hB_23 hS_23 => ?_)
      dsimp only [List.set, mFs] at hB_23
      refine r_aload_n (pc := 26) dX11_shut_26 rfl (by first | rfl | exact isRefV_rf _) ?_
      refine rm_getf (pc := 27) dX11_shut_27 fX11_11 (by assumption) rfl ?_
      refine rj_iconst (pc := 30) dX11_shut_30 ?_
      refine rj_iconst (pc := 31) dX11_shut_31 ?_
      first | refine rm_iast0 (pc := 32) dX11_shut_32 (by assumption) (by first | assumption | exact b01_r | exact bz_r | omega | (constructor <;> omega) | exact hM _ | exact hPo _ | exact hTa _ | exact hRo _) (by first | assumption | exact b01_r | exact bz_r | omega | (constructor <;> omega) | exact hM _ | exact hPo _ | exact hTa _ | exact hRo _) (by first | assumption | exact b01_r | exact bz_r | omega | (constructor <;> omega) | exact hM _ | exact hPo _ | exact hTa _ | exact hRo _) rfl (fun h_32 hB_32 hS_32 => ?_) | refine rm_iast3 (pc := 32) dX11_shut_32 (by assumption) (by first | assumption | exact b01_r | exact bz_r | omega | (constructor <;> omega) | exact hM _ | exact hPo _ | exact hTa _ | exact hRo _) (by first | assumption | exact b01_r | exact bz_r | omega | (constructor <;> omega) | exact hM _ | exact hPo _ | exact hTa _ | exact hRo _) (by first | assumption | exact b01_r | exact bz_r | omega | (constructor <;> omega) | exact hM _ | exact hPo _ | exact hTa _ | exact hRo _) rfl (fun h_32 hB_32 hS_32 => ?_) | refine rm_iast4 (pc := 32) dX11_shut_32 (by assumption) (by first | assumption | exact b01_r | exact bz_r | omega | (constructor <;> omega) | exact hM _ | exact hPo _ | exact hTa _ | exact hRo _) (by first | assumption | exact b01_r | exact bz_r | omega | (constructor <;> omega) | exact hM _ | exact hPo _ | exact hTa _ | exact hRo _) (by first | assumption | exact b01_r | exact bz_r | omega | (constructor <;> omega) | exact hM _ | exact hPo _ | exact hTa _ | exact hRo _) rfl (fun h_32 hB_32 hS_32 => ?_) | refine rm_iast8 (pc := 32) dX11_shut_32 (by assumption) (by first | assumption | exact b01_r | exact bz_r | omega | (constructor <;> omega) | exact hM _ | exact hPo _ | exact hTa _ | exact hRo _) (by first | assumption | exact b01_r | exact bz_r | omega | (constructor <;> omega) | exact hM _ | exact hPo _ | exact hTa _ | exact hRo _) (by first | assumption | exact b01_r | exact bz_r | omega | (constructor <;> omega) | exact hM _ | exact hPo _ | exact hTa _ | exact hRo _) rfl (fun h_32 hB_32 hS_32 => ?_) | refine rm_iast7 (pc := 32) dX11_shut_32 (by assumption) (by first | assumption | exact b01_r | exact bz_r | omega | (constructor <;> omega) | exact hM _ | exact hPo _ | exact hTa _ | exact hRo _) (by first | assumption | exact b01_r | exact bz_r | omega | (constructor <;> omega) | exact hM _ | exact hPo _ | exact hTa _ | exact hRo _) (by first | assumption | exact b01_r | exact bz_r | omega | (constructor <;> omega) | exact hM _ | exact hPo _ | exact hTa _ | exact hRo _) rfl (fun h_32 hB_32 hS_32 => ?_) | refine rm_iast6 (pc := 32) dX11_shut_32 (by assumption) (by first | assumption | exact b01_r | exact bz_r | omega | (constructor <;> omega) | exact hM _ | exact hPo _ | exact hTa _ | exact hRo _) (by first | assumption | exact b01_r | exact bz_r | omega | (constructor <;> omega) | exact hM _ | exact hPo _ | exact hTa _ | exact hRo _) (by first | assumption | exact b01_r | exact bz_r | omega | (constructor <;> omega) | exact hM _ | exact hPo _ | exact hTa _ | exact hRo _) rfl (fun h_32 hB_32 hS_32 => ?_) | refine rm_iast5 (pc := 32) dX11_shut_32 (by assumption) (by first | assumption | exact b01_r | exact bz_r | omega | (constructor <;> omega) | exact hM _ | exact hPo _ | exact hTa _ | exact hRo _) (by first | assumption | exact b01_r | exact bz_r | omega | (constructor <;> omega) | exact hM _ | exact hPo _ | exact hTa _ | exact hRo _) (by first | assumption | exact b01_r | exact bz_r | omega | (constructor <;> omega) | exact hM _ | exact hPo _ | exact hTa _ | exact hRo _) rfl (fun h_32 hB_32 hS_32 => ?_) | refine rm_iast1 (pc := 32) dX11_shut_32 (by assumption) (by first | assumption | exact b01_r | exact bz_r | omega | (constructor <;> omega) | exact hM _ | exact hPo _ | exact hTa _ | exact hRo _) (by first | assumption | exact b01_r | exact bz_r | omega | (constructor <;> omega) | exact hM _ | exact hPo _ | exact hTa _ | exact hRo _) (by first | assumption | exact b01_r | exact bz_r | omega | (constructor <;> omega) | exact hM _ | exact hPo _ | exact hTa _ | exact hRo _) rfl (fun h_32 hB_32 hS_32 => ?_) | refine rm_iast2 (pc := 32) dX11_shut_32 (by assumption) (by first | assumption | exact b01_r | exact bz_r | omega | (constructor <;> omega) | exact hM _ | exact hPo _ | exact hTa _ | exact hRo _) (by first | assumption | exact b01_r | exact bz_r | omega | (constructor <;> omega) | exact hM _ | exact hPo _ | exact hTa _ | exact hRo _) (by first | assumption | exact b01_r | exact bz_r | omega | (constructor <;> omega) | exact hM _ | exact hPo _ | exact hTa _ | exact hRo _) rfl (fun h_32 hB_32 hS_32 => ?_)
      try simp only [Int.reduceToNat] at hB_32
      have hM1 := updM_r hM (k := 5) (v := 0) (by decide)
      refine r_aload_n (pc := 33) dX11_shut_33 rfl (by first | rfl | exact isRefV_rf _) ?_
      refine r_iload_n (pc := 34) dX11_shut_34 rfl ?_
      refine r_callV1 (pc := 35) dX11_shut_35 qX11_shuts kX11_157 vX11_shuts (by exact isM.gx (by assumption)) rfl rfl (Nat.le_of_ble_eq_true rfl) (mf_shuts d hB_32 hM1 ((updI_n (by decide)).trans e0) ((updI_n (by decide)).trans e1) ((updI_n (by decide)).trans e18)) (fun v_35 h_35 q_35 => ?_)
      obtain ⟨rfl, hB_35, S_35⟩ := q_35
      dsimp only [mFs] at hB_35
      refine r_aload_n (pc := 38) dX11_shut_38 rfl (by first | rfl | exact isRefV_rf _) ?_
      refine rm_getf (pc := 39) dX11_shut_39 fX11_11 (by assumption) rfl ?_
      refine rj_iconst (pc := 42) dX11_shut_42 ?_
      refine rj_iald (pc := 43) (j := 5) dX11_shut_43 (by first | exact isM.g0 (by assumption) | exact isM.g3 (by assumption) | exact isM.g4 (by assumption) | exact isM.g8 (by assumption) | exact isM.g7 (by assumption) | exact isM.g6 (by assumption) | exact isM.g5 (by assumption) | exact isM.g1 (by assumption) | exact isM.g2 (by assumption)) (by first | assumption | exact b01_r | exact bz_r | omega | (constructor <;> omega) | exact hM _ | exact hPo _ | exact hTa _ | exact hRo _) (by first | assumption | exact b01_r | exact bz_r | omega | (constructor <;> omega) | exact hM _ | exact hPo _ | exact hTa _ | exact hRo _) (by first | assumption | exact b01_r | exact bz_r | omega | (constructor <;> omega) | exact hM _ | exact hPo _ | exact hTa _ | exact hRo _) rfl ?_
      refine r_ireturn (pc := 44) .int dX11_shut_44 rfl (by first | rfl | assumption) ?_
      refine ⟨by rw [show updI (updI (updI m 5 0) 18 1) 18 0 5 = 0 by rw [updI_n (by decide), updI_n (by decide), updI_s]], ⟨_, hB_35, updM_r (updM_r hM1 (by decide)) (by decide), ?_, ?_, ?_⟩, (hS_23.trans hS_32).trans S_35⟩
      · rw [updI_n (by decide), updI_n (by decide), updI_n (by decide)]; exact e1
      · rw [updI_n (by decide), updI_n (by decide), updI_n (by decide)]; exact e2
      · rw [updI_n (by decide), updI_n (by decide), updI_s]
    · try simp only [b01_0, bz_0, Classical.not_not] at c_15
      exact absurd ⟨by decide, by omega, e18⟩ c_15
  · try simp only [b01_0, bz_0, Classical.not_not] at c_5
    exact absurd ⟨by decide, by omega⟩ c_5
set_option maxHeartbeats 4000000 in
set_option maxRecDepth 100000 in
theorem mf_shut {G : mG} {l : Launch} (d : Nat) {h : mH} {x : Nat} {m kp was pool tape pln pap rwd rw : Nat → Int} (hB : isM h x (mFs x 0 0 0 0 0 0 0 0 0 0 0 4) m kp was pool tape pln pap rwd rw) (hF : fresM m rwd tape) {a : Int} (ha : InR a) : RUNM G l (d + 10) mX11_shut [.ref x, .int (J a)] h (fun v h' => v = some (.int (J (if a = 0 then 0 else -1))) ∧ MO x h h') := by
  by_cases c : a = 0
  · subst c
    exact (mf_shutW d hB hF).mono (fun v h' q => ⟨q.1, MO.same q.2.2⟩)
  · obtain ⟨hM, e0, e1, e2, e3, e4, e5, e6, e7, e10, e19, e21, hRo, er, h40, hTa⟩ := hF
    have hB0 := hB
    dsimp only [mFs] at hB
    refine RUNM.of (by decide +kernel) (Nat.le_of_ble_eq_true rfl) ?_
    refine r_aload_n (pc := 0) dX11_shut_0 rfl (by first | rfl | exact isRefV_rf _) ?_
    refine r_iload_n (pc := 1) dX11_shut_1 rfl ?_
    refine r_callV1 (pc := 2) dX11_shut_2 qX11_isScope kX11_50 vX11_isScope (by exact isM.gx (by assumption)) rfl rfl (Nat.le_of_ble_eq_true rfl) (m_isScope _ hB0 ha ⟨by omega, by omega⟩) (fun v_2 h_2 q_2 => ?_)
    obtain ⟨rfl, rfl⟩ := q_2
    refine rj_if_ne (pc := 5) (tgt := 10) dX11_shut_5 (by decide) (by first | assumption | exact b01_r | exact bz_r | omega | (constructor <;> omega) | exact hM _ | exact hPo _ | exact hTa _ | exact hRo _) (fun c_5 => ?_) (fun c_5 => ?_)
    · try simp only [b01_0, bz_0, Classical.not_not] at c_5
      exfalso
      first | omega | exact absurd trivial ‹¬ True›
    · try simp only [b01_0, bz_0, Classical.not_not] at c_5
      refine rj_iconst (pc := 8) dX11_shut_8 ?_
      refine r_ireturn (pc := 9) .int dX11_shut_9 rfl (by first | rfl | assumption) ?_
      exact ⟨by rw [if_neg c], MO.refl⟩

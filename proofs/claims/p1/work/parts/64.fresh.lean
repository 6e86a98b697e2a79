/-! ===== the reference: plan, take, task, would on a fresh keeper ===== -/
theorem ea0 {m : Nat → Int} {a st : Int} : ∀ n e : Nat, eaL m 0 1 a st n e (-5) = -5
  | 0, _ => rfl
  | n + 1, e => by
    have y : ¬ entryP m 0 1 a e := by
      by_cases c : e < 100
      · rw [entryP_t c]
        exact fun q => absurd q.1 (Nat.not_lt_zero _)
      · rw [entryP_s c]
        exact fun q => by have := q.1; have := q.2.1; omega
    unfold eaL
    rw [if_neg (fun q => y q.1)]
    exact ea0 n (e + 1)
set_option maxHeartbeats 4000000 in
set_option maxRecDepth 100000 in
theorem mf_plansOf {G : mG} {l : Launch} (d : Nat) {h : mH} {x : Nat} {m kp was pool tape pln pap rwd rw : Nat → Int} {f16 : Int} (hB : isM h x (mFs x 0 0 0 0 0 0 0 0 0 f16 0 4) m kp was pool tape pln pap rwd rw) (hM : ∀ q, InR (m q)) (e0 : m 0 = 1) (e1 : m 1 = 0) (e6 : m 6 = 0) : RUNM G l (d + 5) mX11_plansOf [.ref x, .int (J 0)] h (fun v h' => v = none ∧ h' = h) := by
  have hB0 := hB
  dsimp only [mFs] at hB
  refine RUNM.of (by decide +kernel) (Nat.le_of_ble_eq_true rfl) ?_
  refine r_aload_n (pc := 0) dX11_plansOf_0 rfl (by first | rfl | exact isRefV_rf _) ?_
  refine r_iload_n (pc := 1) dX11_plansOf_1 rfl ?_
  refine r_aload_n (pc := 2) dX11_plansOf_2 rfl (by first | rfl | exact isRefV_rf _) ?_
  refine rm_getf (pc := 3) dX11_plansOf_3 fX11_11 (by assumption) rfl ?_
  refine rj_bipush (pc := 6) dX11_plansOf_6 (by decide +kernel) ?_
  refine rj_iald (pc := 8) (j := 6) dX11_plansOf_8 (by first | exact isM.g0 (by assumption) | exact isM.g3 (by assumption) | exact isM.g4 (by assumption) | exact isM.g8 (by assumption) | exact isM.g7 (by assumption) | exact isM.g6 (by assumption) | exact isM.g5 (by assumption) | exact isM.g1 (by assumption) | exact isM.g2 (by assumption)) (by first | assumption | exact b01_r | exact bz_r | omega | (constructor <;> omega) | exact hM _ | exact hPo _ | exact hTa _ | exact hRo _) (by first | assumption | exact b01_r | exact bz_r | omega | (constructor <;> omega) | exact hM _ | exact hPo _ | exact hTa _ | exact hRo _) (by first | assumption | exact b01_r | exact bz_r | omega | (constructor <;> omega) | exact hM _ | exact hPo _ | exact hTa _ | exact hRo _) rfl ?_
  refine rj_iconst (pc := 9) dX11_plansOf_9 ?_
  refine rj_iadd (pc := 10) dX11_plansOf_10 ?_
  refine r_callV2 (pc := 11) dX11_plansOf_11 qX11_entryAhead kX11_261 vX11_entryAhead (by exact isM.gx (by assumption)) rfl rfl (Nat.le_of_ble_eq_true rfl) (m_entryAhead _ hB0 hM (N := 0) (by rw [e1]; rfl) (by decide) (C := 1) (by rw [e0]; rfl) (by decide) (a := 0) (by decide) (st := m 6 + 1) (by rw [e6]; decide)) (fun v_11 h_11 q_11 => ?_)
  obtain ⟨rfl, rfl⟩ := q_11
  rw [ea0]
  refine r_istore_n (pc := 14) dX11_plansOf_14 (Nat.le_of_ble_eq_true rfl) ?_
  dsimp only [lsSt, List.set, mLs, mEnt]
  refine r_iload_n (pc := 15) dX11_plansOf_15 rfl ?_
  refine rj_if_lt (pc := 16) (tgt := 70) dX11_plansOf_16 (by decide) (by first | assumption | exact b01_r | exact bz_r | omega | (constructor <;> omega) | exact hM _ | exact hPo _ | exact hTa _ | exact hRo _) (fun c_16 => ?_) (fun c_16 => ?_)
  · refine r_return (pc := 70) dX11_plansOf_70 rfl ?_
    exact ⟨rfl, rfl⟩
  · exfalso; omega
set_option maxHeartbeats 4000000 in
set_option maxRecDepth 100000 in
theorem mf_plan {G : mG} {l : Launch} (d : Nat) {h : mH} {x : Nat} {m kp was pool tape pln pap rwd rw : Nat → Int} (hB : isM h x (mFs x 0 0 0 0 0 0 0 0 0 0 0 4) m kp was pool tape pln pap rwd rw) (hF : fresM m rwd tape) {a : Int} (ha : InR a) {b : Int} (hb : InR b) : RUNM G l (d + 9) mX11_plan [.ref x, .int (J a), .int (J b)] h (fun v h' => v = some (.int (J (if a = 0 ∧ b = -1 then 0 else -1))) ∧ MO x h h') := by
  obtain ⟨hM, e0, e1, e2, e3, e4, e5, e6, e7, e10, e19, e21, hRo, er, h40, hTa⟩ := hF
  have hB0 := hB
  dsimp only [mFs] at hB
  refine RUNM.of (by decide +kernel) (Nat.le_of_ble_eq_true rfl) ?_
  refine r_aload_n (pc := 0) dX11_plan_0 rfl (by first | rfl | exact isRefV_rf _) ?_
  refine r_iload_n (pc := 1) dX11_plan_1 rfl ?_
  refine r_callV1 (pc := 2) dX11_plan_2 qX11_isScope kX11_50 vX11_isScope (by exact isM.gx (by assumption)) rfl rfl (Nat.le_of_ble_eq_true rfl) (m_isScope _ hB0 ha ⟨by omega, by omega⟩) (fun v_2 h_2 q_2 => ?_)
  obtain ⟨rfl, rfl⟩ := q_2
  refine rj_if_ne (pc := 5) (tgt := 10) dX11_plan_5 (by decide) (by first | assumption | exact b01_r | exact bz_r | omega | (constructor <;> omega) | exact hM _ | exact hPo _ | exact hTa _ | exact hRo _) (fun c_5 => ?_) (fun c_5 => ?_)
  · try simp only [b01_0, bz_0, Classical.not_not] at c_5
    refine r_aload_n (pc := 10) dX11_plan_10 rfl (by first | rfl | exact isRefV_rf _) ?_
    refine rj_iconst (pc := 11) dX11_plan_11 ?_
    refine rm_putf (pc := 12) dX11_plan_12 fX11_273 (by assumption) rfl rfl (Nat.le_of_ble_eq_true rfl) (fun h_12 hB_12 hS_12 => ?_)
    dsimp only [List.set, mFs] at hB_12
    obtain rfl : a = 0 := by omega
    refine r_aload_n (pc := 15) dX11_plan_15 rfl (by first | rfl | exact isRefV_rf _) ?_
    refine r_iload_n (pc := 16) dX11_plan_16 rfl ?_
    refine r_callV1 (pc := 17) dX11_plan_17 qX11_plansOf kX11_270 vX11_plansOf (by exact isM.gx (by assumption)) rfl rfl (Nat.le_of_ble_eq_true rfl) (mf_plansOf _ hB_12 hM e0 e1 e6) (fun v_17 h_17 q_17 => ?_)
    obtain ⟨rfl, rfl⟩ := q_17
    refine r_iload_n (pc := 20) dX11_plan_20 rfl ?_
    refine rj_iconst (pc := 21) dX11_plan_21 ?_
    refine r_aload_n (pc := 22) dX11_plan_22 rfl (by first | rfl | exact isRefV_rf _) ?_
    refine rm_getf (pc := 23) dX11_plan_23 fX11_273 (by assumption) rfl ?_
    refine rj_iconst (pc := 26) dX11_plan_26 ?_
    refine rj_isub (pc := 27) dX11_plan_27 ?_
    refine r_callS3 (pc := 28) dX11_plan_28 qX11_isIn kX11_46 sX11_isIn (Nat.le_of_ble_eq_true rfl) (m_isIn _ hb (by decide) (by decide)) (fun v_28 h_28 q_28 => ?_)
    obtain ⟨rfl, rfl⟩ := q_28
    refine rj_if_ne (pc := 31) (tgt := 38) dX11_plan_31 (by decide) (by first | assumption | exact b01_r | exact bz_r | omega | (constructor <;> omega) | exact hM _ | exact hPo _ | exact hTa _ | exact hRo _) (fun c_31 => ?_) (fun c_31 => ?_)
    · try simp only [b01_0, bz_0, Classical.not_not] at c_31
      refine r_iload_n (pc := 38) dX11_plan_38 rfl ?_
      refine rj_if_ge (pc := 39) (tgt := 49) dX11_plan_39 (by decide) (by first | assumption | exact b01_r | exact bz_r | omega | (constructor <;> omega) | exact hM _ | exact hPo _ | exact hTa _ | exact hRo _) (fun c_39 => ?_) (fun c_39 => ?_)
      · exfalso; omega
      · refine r_aload_n (pc := 42) dX11_plan_42 rfl (by first | rfl | exact isRefV_rf _) ?_
        refine rm_getf (pc := 43) dX11_plan_43 fX11_273 (by assumption) rfl ?_
        refine r_goto (pc := 46) (tgt := 55) dX11_plan_46 (by decide) ?_
        refine r_ireturn (pc := 55) .int dX11_plan_55 rfl (by first | rfl | assumption) ?_
        first | exact ⟨by rw [if_neg (by omega)], MO.same hS_12⟩ | exact ⟨by rw [if_pos (by omega)], MO.same hS_12⟩
    · try simp only [b01_0, bz_0, Classical.not_not] at c_31
      refine rj_iconst (pc := 34) dX11_plan_34 ?_
      refine r_goto (pc := 35) (tgt := 55) dX11_plan_35 (by decide) ?_
      refine r_ireturn (pc := 55) .int dX11_plan_55 rfl (by first | rfl | assumption) ?_
      first | exact ⟨by rw [if_neg (by omega)], MO.same hS_12⟩ | exact ⟨by rw [if_pos (by omega)], MO.same hS_12⟩
  · try simp only [b01_0, bz_0, Classical.not_not] at c_5
    refine rj_iconst (pc := 8) dX11_plan_8 ?_
    refine r_ireturn (pc := 9) .int dX11_plan_9 rfl (by first | rfl | assumption) ?_
    exact ⟨by rw [if_neg (by omega)], MO.refl⟩
theorem tx0 {tape pool : Nat → Int} (hTa : ∀ q, tape q = 0) : txOk 4 tape pool tape 0 := ⟨Or.inl ⟨rfl, rfl, by decide⟩, by decide, fun i => by rw [hTa i]; decide⟩
theorem nb0 {tape : Nat → Int} : ¬ nameB tape 0 ((0 : Int), (-1 : Int), (0 : Int), (0 : Int), (0 : Int)) := fun q => absurd q.1 (by show ¬ (97 : Int) ≤ -1; decide)
theorem nf0 {tape : Nat → Int} : nameF tape 0 ((0 : Int), (-1 : Int), (0 : Int), (0 : Int), (0 : Int)) = ((0 : Int), (0 : Int), (0 : Int), (0 : Int), (0 : Int)) := by unfold nameF; rw [if_neg nb0]; rfl
theorem ps0 : psOk 0 ((0 : Int), (-1 : Int), (0 : Int), (0 : Int), (0 : Int)) := by unfold psOk; decide
set_option maxHeartbeats 4000000 in
set_option maxRecDepth 100000 in
theorem mf_take {G : mG} {l : Launch} (d : Nat) {h : mH} {x : Nat} {m kp was pool tape pln pap rwd rw : Nat → Int} (hB : isM h x (mFs x 0 0 0 0 0 0 0 0 0 0 0 4) m kp was pool tape pln pap rwd rw) (hF : fresM m rwd tape) {a : Int} (ha : InR a) : RUNM G l (d + 9) mX11_take [.ref x, .int (J a)] h (fun v h' => v = some (.int (J (if a = 0 then -100 else -1))) ∧ MO x h h') := by
  obtain ⟨hM, e0, e1, e2, e3, e4, e5, e6, e7, e10, e19, e21, hRo, er, h40, hTa⟩ := hF
  have hB0 := hB
  have e18 := e10 18 (by decide) (by decide)
  dsimp only [mFs] at hB
  refine RUNM.of (by decide +kernel) (Nat.le_of_ble_eq_true rfl) ?_
  refine r_aload_n (pc := 0) dX11_take_0 rfl (by first | rfl | exact isRefV_rf _) ?_
  refine r_iload_n (pc := 1) dX11_take_1 rfl ?_
  refine r_callV1 (pc := 2) dX11_take_2 qX11_isScope kX11_50 vX11_isScope (by exact isM.gx (by assumption)) rfl rfl (Nat.le_of_ble_eq_true rfl) (m_isScope _ hB0 ha ⟨by omega, by omega⟩) (fun v_2 h_2 q_2 => ?_)
  obtain ⟨rfl, rfl⟩ := q_2
  refine rj_if_ne (pc := 5) (tgt := 10) dX11_take_5 (by decide) (by first | assumption | exact b01_r | exact bz_r | omega | (constructor <;> omega) | exact hM _ | exact hPo _ | exact hTa _ | exact hRo _) (fun c_5 => ?_) (fun c_5 => ?_)
  · try simp only [b01_0, bz_0, Classical.not_not] at c_5
    obtain rfl : a = 0 := by omega
    refine r_aload_n (pc := 10) dX11_take_10 rfl (by first | rfl | exact isRefV_rf _) ?_
    refine r_iload_n (pc := 11) dX11_take_11 rfl ?_
    refine r_callV1 (pc := 12) dX11_take_12 qX11_isOpen kX11_146 vX11_isOpen (by exact isM.gx (by assumption)) rfl rfl (Nat.le_of_ble_eq_true rfl) (m_isOpen _ hB0 hM (by omega) (a := 0) (by decide)) (fun v_12 h_12 q_12 => ?_)
    obtain ⟨rfl, rfl⟩ := q_12
    refine rj_if_ne (pc := 15) (tgt := 21) dX11_take_15 (by decide) (by first | assumption | exact b01_r | exact bz_r | omega | (constructor <;> omega) | exact hM _ | exact hPo _ | exact hTa _ | exact hRo _) (fun c_15 => ?_) (fun c_15 => ?_)
    · try simp only [b01_0, bz_0, Classical.not_not] at c_15
      refine r_aload_n (pc := 21) dX11_take_21 rfl (by first | rfl | exact isRefV_rf _) ?_
      refine rm_getf (pc := 22) dX11_take_22 fX11_61 (by assumption) rfl ?_
      refine r_istore_n (pc := 25) dX11_take_25 (Nat.le_of_ble_eq_true rfl) ?_
      dsimp only [lsSt, List.set, mLs, mEnt]
      refine r_aload_n (pc := 26) dX11_take_26 rfl (by first | rfl | exact isRefV_rf _) ?_
      refine rj_iconst (pc := 27) dX11_take_27 ?_
      refine rm_putf (pc := 28) dX11_take_28 fX11_61 (by assumption) rfl rfl (Nat.le_of_ble_eq_true rfl) (fun h_28 hB_28 hS_28 => ?_)
      dsimp only [List.set, mFs] at hB_28
      refine r_aload_n (pc := 31) dX11_take_31 rfl (by first | rfl | exact isRefV_rf _) ?_
      refine r_aload_n (pc := 32) dX11_take_32 rfl (by first | rfl | exact isRefV_rf _) ?_
      refine rm_getf (pc := 33) dX11_take_33 fX11_24 (by assumption) rfl ?_
      refine rj_iconst (pc := 36) dX11_take_36 ?_
      refine r_iload_n (pc := 37) dX11_take_37 rfl ?_
      refine r_callV3 (pc := 38) dX11_take_38 qX11_begins kX11_115 vX11_begins (by exact isM.gx (by assumption)) rfl rfl (Nat.le_of_ble_eq_true rfl) (m_begins _ hB_28 (s2 := 4) (a := 0) (b := 0)) (fun v_38 h_38 q_38 => ?_)
      obtain ⟨rfl, hB_38, S_38⟩ := q_38
      refine r_aload_n (pc := 41) dX11_take_41 rfl (by first | rfl | exact isRefV_rf _) ?_
      refine r_callV0 (pc := 42) dX11_take_42 qX11_isName kX11_88 vX11_isName (by exact isM.gx (by assumption)) rfl rfl (Nat.le_of_ble_eq_true rfl) (m_isName _ (q := ((0 : Int), (-1 : Int), (0 : Int), (0 : Int), (0 : Int))) (sr := tape) (pool := pool) (tape := tape) hB_38 (tx0 hTa) ps0) (fun v_42 h_42 q_42 => ?_)
      obtain ⟨rfl, hB_42, S_42⟩ := q_42
      rw [nf0] at hB_42
      dsimp only [mFs] at hB_42
      refine r_istore_n (pc := 45) dX11_take_45 (Nat.le_of_ble_eq_true rfl) ?_
      dsimp only [lsSt, List.set, mLs, mEnt]
      refine r_aload_n (pc := 46) dX11_take_46 rfl (by first | rfl | exact isRefV_rf _) ?_
      refine rm_getf (pc := 47) dX11_take_47 fX11_65 (by assumption) rfl ?_
      refine r_istore (pc := 50) dX11_take_50 (Nat.le_of_ble_eq_true rfl) ?_
      dsimp only [lsSt, List.set, mLs, mEnt]
      refine r_iload_n (pc := 52) dX11_take_52 rfl ?_
      refine rj_if_eq (pc := 53) (tgt := 82) dX11_take_53 (by decide) (by first | assumption | exact b01_r | exact bz_r | omega | (constructor <;> omega) | exact hM _ | exact hPo _ | exact hTa _ | exact hRo _) (fun c_53 => ?_) (fun c_53 => ?_)
      · try simp only [b01_0, bz_0, Classical.not_not] at c_53
        refine r_iload_n (pc := 82) dX11_take_82 rfl ?_
        refine rj_if_eq (pc := 83) (tgt := 93) dX11_take_83 (by decide) (by first | assumption | exact b01_r | exact bz_r | omega | (constructor <;> omega) | exact hM _ | exact hPo _ | exact hTa _ | exact hRo _) (fun c_83 => ?_) (fun c_83 => ?_)
        · try simp only [b01_0, bz_0, Classical.not_not] at c_83
          refine rj_bipush (pc := 93) dX11_take_93 (by decide +kernel) ?_
          refine r_aload_n (pc := 95) dX11_take_95 rfl (by first | rfl | exact isRefV_rf _) ?_
          refine rm_getf (pc := 96) dX11_take_96 fX11_71 (by assumption) rfl ?_
          refine rj_isub (pc := 99) dX11_take_99 ?_
          refine r_ireturn (pc := 100) .int dX11_take_100 rfl (by first | rfl | assumption) ?_
          exact ⟨by rw [if_pos rfl]; rfl, MO.same ((hS_28.trans S_38).trans S_42)⟩
        · try simp only [b01_0, bz_0, Classical.not_not] at c_83
          exact absurd c_83 nb0
      · try simp only [b01_0, bz_0, Classical.not_not] at c_53
        exact absurd c_53 nb0
    · try simp only [b01_0, bz_0, Classical.not_not] at c_15
      exact absurd ⟨by decide, by omega, e18⟩ c_15
  · try simp only [b01_0, bz_0, Classical.not_not] at c_5
    refine rj_iconst (pc := 8) dX11_take_8 ?_
    refine r_ireturn (pc := 9) .int dX11_take_9 rfl (by first | rfl | assumption) ?_
    exact ⟨by rw [if_neg (by omega)], MO.refl⟩
theorem sw0 {tape : Nat → Int} : stepsW tape 0 0 true ((0 : Int), (-1 : Int), (0 : Int), (0 : Int), (0 : Int)) = (false, ((0 : Int), (0 : Int), (0 : Int), (1 : Int), (0 : Int))) := by rfl
set_option maxHeartbeats 4000000 in
set_option maxRecDepth 100000 in
theorem mf_task {G : mG} {l : Launch} (d : Nat) {h : mH} {x : Nat} {m kp was pool tape pln pap rwd rw : Nat → Int} (hB : isM h x (mFs x 0 0 0 0 0 0 0 0 0 0 0 4) m kp was pool tape pln pap rwd rw) (hF : fresM m rwd tape) {a : Int} (ha : InR a) {b : Int} (hb : InR b) : RUNM G l (d + 40) mX11_task [.ref x, .int (J a), .int (J b)] h (fun v h' => v = some (.int (J (if a = 0 then (if -99 ≤ b ∧ b ≤ 99 then -100 else -2) else -1))) ∧ MO x h h') := by
  obtain ⟨hM, e0, e1, e2, e3, e4, e5, e6, e7, e10, e19, e21, hRo, er, h40, hTa⟩ := hF
  have hB0 := hB
  have e18 := e10 18 (by decide) (by decide)
  dsimp only [mFs] at hB
  refine RUNM.of (by decide +kernel) (Nat.le_of_ble_eq_true rfl) ?_
  refine r_aload_n (pc := 0) dX11_task_0 rfl (by first | rfl | exact isRefV_rf _) ?_
  refine r_iload_n (pc := 1) dX11_task_1 rfl ?_
  refine r_callV1 (pc := 2) dX11_task_2 qX11_isScope kX11_50 vX11_isScope (by exact isM.gx (by assumption)) rfl rfl (Nat.le_of_ble_eq_true rfl) (m_isScope _ hB0 ha ⟨by omega, by omega⟩) (fun v_2 h_2 q_2 => ?_)
  obtain ⟨rfl, rfl⟩ := q_2
  refine rj_if_ne (pc := 5) (tgt := 10) dX11_task_5 (by decide) (by first | assumption | exact b01_r | exact bz_r | omega | (constructor <;> omega) | exact hM _ | exact hPo _ | exact hTa _ | exact hRo _) (fun c_5 => ?_) (fun c_5 => ?_)
  · try simp only [b01_0, bz_0, Classical.not_not] at c_5
    obtain rfl : a = 0 := by omega
    refine r_iload_n (pc := 10) dX11_task_10 rfl ?_
    refine rj_bipush (pc := 11) dX11_task_11 (by decide +kernel) ?_
    refine rj_bipush (pc := 13) dX11_task_13 (by decide +kernel) ?_
    refine r_callS3 (pc := 15) dX11_task_15 qX11_isIn kX11_46 sX11_isIn (Nat.le_of_ble_eq_true rfl) (m_isIn _ hb (by decide) (by decide)) (fun v_15 h_15 q_15 => ?_)
    obtain ⟨rfl, rfl⟩ := q_15
    refine rj_if_ne (pc := 18) (tgt := 24) dX11_task_18 (by decide) (by first | assumption | exact b01_r | exact bz_r | omega | (constructor <;> omega) | exact hM _ | exact hPo _ | exact hTa _ | exact hRo _) (fun c_18 => ?_) (fun c_18 => ?_)
    · try simp only [b01_0, bz_0, Classical.not_not] at c_18
      refine r_aload_n (pc := 24) dX11_task_24 rfl (by first | rfl | exact isRefV_rf _) ?_
      refine r_iload_n (pc := 25) dX11_task_25 rfl ?_
      refine r_callV1 (pc := 26) dX11_task_26 qX11_isOpen kX11_146 vX11_isOpen (by exact isM.gx (by assumption)) rfl rfl (Nat.le_of_ble_eq_true rfl) (m_isOpen _ hB0 hM (by omega) (a := 0) (by decide)) (fun v_26 h_26 q_26 => ?_)
      obtain ⟨rfl, rfl⟩ := q_26
      refine rj_if_ne (pc := 29) (tgt := 35) dX11_task_29 (by decide) (by first | assumption | exact b01_r | exact bz_r | omega | (constructor <;> omega) | exact hM _ | exact hPo _ | exact hTa _ | exact hRo _) (fun c_29 => ?_) (fun c_29 => ?_)
      · try simp only [b01_0, bz_0, Classical.not_not] at c_29
        refine r_aload_n (pc := 35) dX11_task_35 rfl (by first | rfl | exact isRefV_rf _) ?_
        refine rm_getf (pc := 36) dX11_task_36 fX11_11 (by assumption) rfl ?_
        refine rj_iconst (pc := 39) dX11_task_39 ?_
        refine rj_iald (pc := 40) (j := 3) dX11_task_40 (by first | exact isM.g0 (by assumption) | exact isM.g3 (by assumption) | exact isM.g4 (by assumption) | exact isM.g8 (by assumption) | exact isM.g7 (by assumption) | exact isM.g6 (by assumption) | exact isM.g5 (by assumption) | exact isM.g1 (by assumption) | exact isM.g2 (by assumption)) (by first | assumption | exact b01_r | exact bz_r | omega | (constructor <;> omega) | exact hM _ | exact hPo _ | exact hTa _ | exact hRo _) (by first | assumption | exact b01_r | exact bz_r | omega | (constructor <;> omega) | exact hM _ | exact hPo _ | exact hTa _ | exact hRo _) (by first | assumption | exact b01_r | exact bz_r | omega | (constructor <;> omega) | exact hM _ | exact hPo _ | exact hTa _ | exact hRo _) rfl ?_
        refine rj_bipush (pc := 41) dX11_task_41 (by decide +kernel) ?_
        refine rj_icmp_eq (pc := 43) (tgt := 57) dX11_task_43 (by decide) (by first | assumption | exact b01_r | exact bz_r | omega | (constructor <;> omega) | exact hM _ | exact hPo _ | exact hTa _ | exact hRo _) (by first | assumption | exact b01_r | exact bz_r | omega | (constructor <;> omega) | exact hM _ | exact hPo _ | exact hTa _ | exact hRo _) (fun c_43 => ?_) (fun c_43 => ?_)
        · exfalso; omega
        · refine r_aload_n (pc := 46) dX11_task_46 rfl (by first | rfl | exact isRefV_rf _) ?_
          refine rm_getf (pc := 47) dX11_task_47 fX11_11 (by assumption) rfl ?_
          refine rj_iconst (pc := 50) dX11_task_50 ?_
          refine rj_iald (pc := 51) (j := 0) dX11_task_51 (by first | exact isM.g0 (by assumption) | exact isM.g3 (by assumption) | exact isM.g4 (by assumption) | exact isM.g8 (by assumption) | exact isM.g7 (by assumption) | exact isM.g6 (by assumption) | exact isM.g5 (by assumption) | exact isM.g1 (by assumption) | exact isM.g2 (by assumption)) (by first | assumption | exact b01_r | exact bz_r | omega | (constructor <;> omega) | exact hM _ | exact hPo _ | exact hTa _ | exact hRo _) (by first | assumption | exact b01_r | exact bz_r | omega | (constructor <;> omega) | exact hM _ | exact hPo _ | exact hTa _ | exact hRo _) (by first | assumption | exact b01_r | exact bz_r | omega | (constructor <;> omega) | exact hM _ | exact hPo _ | exact hTa _ | exact hRo _) rfl ?_
          refine rj_bipush (pc := 52) dX11_task_52 (by decide +kernel) ?_
          refine rj_icmp_ne (pc := 54) (tgt := 60) dX11_task_54 (by decide) (by first | assumption | exact b01_r | exact bz_r | omega | (constructor <;> omega) | exact hM _ | exact hPo _ | exact hTa _ | exact hRo _) (by first | assumption | exact b01_r | exact bz_r | omega | (constructor <;> omega) | exact hM _ | exact hPo _ | exact hTa _ | exact hRo _) (fun c_54 => ?_) (fun c_54 => ?_)
          · refine r_aload_n (pc := 60) dX11_task_60 rfl (by first | rfl | exact isRefV_rf _) ?_
            refine rm_getf (pc := 61) dX11_task_61 fX11_61 (by assumption) rfl ?_
            refine r_istore_n (pc := 64) dX11_task_64 (Nat.le_of_ble_eq_true rfl) ?_
            dsimp only [lsSt, List.set, mLs, mEnt]
            refine r_aload_n (pc := 65) dX11_task_65 rfl (by first | rfl | exact isRefV_rf _) ?_
            refine rj_iconst (pc := 66) dX11_task_66 ?_
            refine rm_putf (pc := 67) dX11_task_67 fX11_61 (by assumption) rfl rfl (Nat.le_of_ble_eq_true rfl) (fun h_67 hB_67 hS_67 => ?_)
            dsimp only [List.set, mFs] at hB_67
            refine r_aload_n (pc := 70) dX11_task_70 rfl (by first | rfl | exact isRefV_rf _) ?_
            refine r_aload_n (pc := 71) dX11_task_71 rfl (by first | rfl | exact isRefV_rf _) ?_
            refine rm_getf (pc := 72) dX11_task_72 fX11_24 (by assumption) rfl ?_
            refine rj_iconst (pc := 75) dX11_task_75 ?_
            refine r_iload_n (pc := 76) dX11_task_76 rfl ?_
            refine r_callV3 (pc := 77) dX11_task_77 qX11_begins kX11_115 vX11_begins (by exact isM.gx (by assumption)) rfl rfl (Nat.le_of_ble_eq_true rfl) (m_begins _ hB_67 (s2 := 4) (a := 0) (b := 0)) (fun v_77 h_77 q_77 => ?_)
            obtain ⟨rfl, hB_77, S_77⟩ := q_77
            refine r_aload_n (pc := 80) dX11_task_80 rfl (by first | rfl | exact isRefV_rf _) ?_
            show RUN _ _ _ _ _ _ _ _ _
            refine rj_iconst (pc := 81) dX11_task_81 ?_
            refine rj_iconst (pc := 82) dX11_task_82 ?_
            refine r_callV2 (pc := 83) dX11_task_83 qX11_isStepsRead kX11_92 vX11_isStepsRead (by exact isM.gx (by assumption)) rfl rfl (Nat.le_of_ble_eq_true rfl) ((m_stepsW (q := ((0 : Int), (-1 : Int), (0 : Int), (0 : Int), (0 : Int))) (sr := tape) (pool := pool) (tape := tape) hB_77 (tx0 hTa) ps0 (w := 0) (it := true) (by decide) (by decide)).deeper (by omega)) (fun v_83 h_83 q_83 => ?_)
            obtain ⟨rfl, hB_83, S_83⟩ := q_83
            rw [sw0] at hB_83
            rw [sw0]
            dsimp only [mFs] at hB_83
            refine rj_if_eq (pc := 86) (tgt := 96) dX11_task_86 (by decide) (by first | assumption | exact b01_r | exact bz_r | omega | (constructor <;> omega) | exact hM _ | exact hPo _ | exact hTa _ | exact hRo _) (fun c_86 => ?_) (fun c_86 => ?_)
            · try simp only [b01_0, bz_0, Classical.not_not] at c_86
              refine rj_bipush (pc := 96) dX11_task_96 (by decide +kernel) ?_
              refine r_aload_n (pc := 98) dX11_task_98 rfl (by first | rfl | exact isRefV_rf _) ?_
              refine rm_getf (pc := 99) dX11_task_99 fX11_71 (by assumption) rfl ?_
              refine rj_isub (pc := 102) dX11_task_102 ?_
              refine r_ireturn (pc := 103) .int dX11_task_103 rfl (by first | rfl | assumption) ?_
              exact ⟨by rw [if_pos rfl, if_pos (by omega)]; rfl, MO.same ((hS_67.trans S_77).trans S_83)⟩
            · try simp only [b01_0, bz_0, Classical.not_not] at c_86
              exact absurd c_86 (by decide)
          · exfalso; omega
      · try simp only [b01_0, bz_0, Classical.not_not] at c_29
        exact absurd ⟨by decide, by omega, e18⟩ c_29
    · try simp only [b01_0, bz_0, Classical.not_not] at c_18
      refine rj_bipush (pc := 21) dX11_task_21 (by decide +kernel) ?_
      refine r_ireturn (pc := 23) .int dX11_task_23 rfl (by first | rfl | assumption) ?_
      exact ⟨by rw [if_pos rfl, if_neg (by omega)], MO.refl⟩
  · try simp only [b01_0, bz_0, Classical.not_not] at c_5
    refine rj_iconst (pc := 8) dX11_task_8 ?_
    refine r_ireturn (pc := 9) .int dX11_task_9 rfl (by first | rfl | assumption) ?_
    exact ⟨by rw [if_neg (by omega)], MO.refl⟩
theorem cpF_at {f g : Nat → Int} {q : Nat} (h : q < 2928) : cpF f g 2928 q = f q := by
  unfold cpF
  first | rw [if_pos h] | (split <;> first | rfl | (exfalso; omega))
set_option maxHeartbeats 4000000 in
set_option maxRecDepth 100000 in
theorem mf_wouldNow {G : mG} {l : Launch} (d : Nat) {h : mH} {x : Nat} {m kp was pool tape pln pap rwd rw : Nat → Int} {f14 : Int} (hB : isM h x (mFs x 0 0 0 0 0 0 0 0 f14 0 0 4) m kp was pool tape pln pap rwd rw) (hM : ∀ q, InR (m q)) (e1 : m 1 = 0) (e2 : m 2 = 0) (e5 : m 5 = 0) (w1 : was 1 = 0) (w2 : was 2 = 0) {a : Int} (ha : InR a) (ha0 : 0 ≤ a ∧ a ≤ 5) : RUNM G l (d + 5) mX11_wouldNow [.ref x, .int (J a)] h (fun v h' => v = some (.int (J (if a = 2 then -1 else 0))) ∧ h' = h) := by
  have hB0 := hB
  dsimp only [mFs] at hB
  refine RUNM.of (by decide +kernel) (Nat.le_of_ble_eq_true rfl) ?_
  refine r_iload_n (pc := 0) dX11_wouldNow_0 rfl ?_
  refine rj_tsw (pc := 1) dX11_wouldNow_1 (by first | assumption | exact b01_r | exact bz_r | omega | (constructor <;> omega) | exact hM _ | exact hPo _ | exact hTa _ | exact hRo _) (by decide) (by decide) (by decide) (fun off_1 tgt_1 ho_1 ht_1 => ?_)
  by_cases e_1_0 : a = 0
  · rw [e_1_0] at ho_1
    obtain rfl : off_1 = 35 := ho_1.symm.trans (by decide)
    obtain rfl : tgt_1 = 36 := by omega
    refine r_aload_n (pc := 36) dX11_wouldNow_36 rfl (by first | rfl | exact isRefV_rf _) ?_
    refine rm_getf (pc := 37) dX11_wouldNow_37 fX11_11 (by assumption) rfl ?_
    refine rj_iconst (pc := 40) dX11_wouldNow_40 ?_
    refine rj_iald (pc := 41) (j := 5) dX11_wouldNow_41 (by first | exact isM.g0 (by assumption) | exact isM.g3 (by assumption) | exact isM.g4 (by assumption) | exact isM.g8 (by assumption) | exact isM.g7 (by assumption) | exact isM.g6 (by assumption) | exact isM.g5 (by assumption) | exact isM.g1 (by assumption) | exact isM.g2 (by assumption)) (by first | assumption | exact b01_r | exact bz_r | omega | (constructor <;> omega) | exact hM _ | exact hPo _ | exact hTa _ | exact hRo _) (by first | assumption | exact b01_r | exact bz_r | omega | (constructor <;> omega) | exact hM _ | exact hPo _ | exact hTa _ | exact hRo _) (by first | assumption | exact b01_r | exact bz_r | omega | (constructor <;> omega) | exact hM _ | exact hPo _ | exact hTa _ | exact hRo _) rfl ?_
    rw [e5]
    refine r_ireturn (pc := 42) .int dX11_wouldNow_42 rfl (by first | rfl | assumption) ?_
    refine ⟨?_, rfl⟩
    first | (rw [if_neg (by omega)]; done) | (rw [if_neg (by omega)]; rfl) | (rw [if_pos (by omega)]; done)
  by_cases e_1_1 : a = 1
  · rw [e_1_1] at ho_1
    obtain rfl : off_1 = 42 := ho_1.symm.trans (by decide)
    obtain rfl : tgt_1 = 43 := by omega
    refine r_aload_n (pc := 43) dX11_wouldNow_43 rfl (by first | rfl | exact isRefV_rf _) ?_
    refine rm_getf (pc := 44) dX11_wouldNow_44 fX11_11 (by assumption) rfl ?_
    refine rj_iconst (pc := 47) dX11_wouldNow_47 ?_
    refine rj_iald (pc := 48) (j := 5) dX11_wouldNow_48 (by first | exact isM.g0 (by assumption) | exact isM.g3 (by assumption) | exact isM.g4 (by assumption) | exact isM.g8 (by assumption) | exact isM.g7 (by assumption) | exact isM.g6 (by assumption) | exact isM.g5 (by assumption) | exact isM.g1 (by assumption) | exact isM.g2 (by assumption)) (by first | assumption | exact b01_r | exact bz_r | omega | (constructor <;> omega) | exact hM _ | exact hPo _ | exact hTa _ | exact hRo _) (by first | assumption | exact b01_r | exact bz_r | omega | (constructor <;> omega) | exact hM _ | exact hPo _ | exact hTa _ | exact hRo _) (by first | assumption | exact b01_r | exact bz_r | omega | (constructor <;> omega) | exact hM _ | exact hPo _ | exact hTa _ | exact hRo _) rfl ?_
    refine rj_if_ne (pc := 49) (tgt := 56) dX11_wouldNow_49 (by decide) (by first | assumption | exact b01_r | exact bz_r | omega | (constructor <;> omega) | exact hM _ | exact hPo _ | exact hTa _ | exact hRo _) (fun c_49 => ?_) (fun c_49 => ?_)
    · try simp only [b01_0, bz_0, Classical.not_not] at c_49
      exfalso
      first | omega | exact absurd trivial ‹¬ True›
    · try simp only [b01_0, bz_0, Classical.not_not] at c_49
      refine rj_iconst (pc := 52) dX11_wouldNow_52 ?_
      refine r_goto (pc := 53) (tgt := 64) dX11_wouldNow_53 (by decide) ?_
      refine r_ireturn (pc := 64) .int dX11_wouldNow_64 rfl (by first | rfl | assumption) ?_
      refine ⟨?_, rfl⟩
      first | (rw [if_neg (by omega)]; done) | (rw [if_neg (by omega)]; rfl) | (rw [if_pos (by omega)]; done)
  by_cases e_1_2 : a = 2
  · rw [e_1_2] at ho_1
    obtain rfl : off_1 = 64 := ho_1.symm.trans (by decide)
    obtain rfl : tgt_1 = 65 := by omega
    refine r_aload_n (pc := 65) dX11_wouldNow_65 rfl (by first | rfl | exact isRefV_rf _) ?_
    refine rm_getf (pc := 66) dX11_wouldNow_66 fX11_11 (by assumption) rfl ?_
    refine rj_iconst (pc := 69) dX11_wouldNow_69 ?_
    refine rj_iald (pc := 70) (j := 5) dX11_wouldNow_70 (by first | exact isM.g0 (by assumption) | exact isM.g3 (by assumption) | exact isM.g4 (by assumption) | exact isM.g8 (by assumption) | exact isM.g7 (by assumption) | exact isM.g6 (by assumption) | exact isM.g5 (by assumption) | exact isM.g1 (by assumption) | exact isM.g2 (by assumption)) (by first | assumption | exact b01_r | exact bz_r | omega | (constructor <;> omega) | exact hM _ | exact hPo _ | exact hTa _ | exact hRo _) (by first | assumption | exact b01_r | exact bz_r | omega | (constructor <;> omega) | exact hM _ | exact hPo _ | exact hTa _ | exact hRo _) (by first | assumption | exact b01_r | exact bz_r | omega | (constructor <;> omega) | exact hM _ | exact hPo _ | exact hTa _ | exact hRo _) rfl ?_
    refine rj_if_ne (pc := 71) (tgt := 78) dX11_wouldNow_71 (by decide) (by first | assumption | exact b01_r | exact bz_r | omega | (constructor <;> omega) | exact hM _ | exact hPo _ | exact hTa _ | exact hRo _) (fun c_71 => ?_) (fun c_71 => ?_)
    · try simp only [b01_0, bz_0, Classical.not_not] at c_71
      exfalso
      first | omega | exact absurd trivial ‹¬ True›
    · try simp only [b01_0, bz_0, Classical.not_not] at c_71
      refine rj_iconst (pc := 74) dX11_wouldNow_74 ?_
      refine r_goto (pc := 75) (tgt := 86) dX11_wouldNow_75 (by decide) ?_
      refine r_ireturn (pc := 86) .int dX11_wouldNow_86 rfl (by first | rfl | assumption) ?_
      refine ⟨?_, rfl⟩
      first | (rw [if_neg (by omega)]; done) | (rw [if_neg (by omega)]; rfl) | (rw [if_pos (by omega)]; done)
  by_cases e_1_3 : a = 3
  · rw [e_1_3] at ho_1
    obtain rfl : off_1 = 86 := ho_1.symm.trans (by decide)
    obtain rfl : tgt_1 = 87 := by omega
    refine r_aload_n (pc := 87) dX11_wouldNow_87 rfl (by first | rfl | exact isRefV_rf _) ?_
    refine rm_getf (pc := 88) dX11_wouldNow_88 fX11_11 (by assumption) rfl ?_
    refine rj_iconst (pc := 91) dX11_wouldNow_91 ?_
    refine rj_iald (pc := 92) (j := 2) dX11_wouldNow_92 (by first | exact isM.g0 (by assumption) | exact isM.g3 (by assumption) | exact isM.g4 (by assumption) | exact isM.g8 (by assumption) | exact isM.g7 (by assumption) | exact isM.g6 (by assumption) | exact isM.g5 (by assumption) | exact isM.g1 (by assumption) | exact isM.g2 (by assumption)) (by first | assumption | exact b01_r | exact bz_r | omega | (constructor <;> omega) | exact hM _ | exact hPo _ | exact hTa _ | exact hRo _) (by first | assumption | exact b01_r | exact bz_r | omega | (constructor <;> omega) | exact hM _ | exact hPo _ | exact hTa _ | exact hRo _) (by first | assumption | exact b01_r | exact bz_r | omega | (constructor <;> omega) | exact hM _ | exact hPo _ | exact hTa _ | exact hRo _) rfl ?_
    refine r_aload_n (pc := 93) dX11_wouldNow_93 rfl (by first | rfl | exact isRefV_rf _) ?_
    refine rm_getf (pc := 94) dX11_wouldNow_94 fX11_18 (by assumption) rfl ?_
    refine rj_iconst (pc := 97) dX11_wouldNow_97 ?_
    refine rj_iald (pc := 98) (j := 2) dX11_wouldNow_98 (by first | exact isM.g0 (by assumption) | exact isM.g3 (by assumption) | exact isM.g4 (by assumption) | exact isM.g8 (by assumption) | exact isM.g7 (by assumption) | exact isM.g6 (by assumption) | exact isM.g5 (by assumption) | exact isM.g1 (by assumption) | exact isM.g2 (by assumption)) (by first | assumption | exact b01_r | exact bz_r | omega | (constructor <;> omega) | exact hM _ | exact hPo _ | exact hTa _ | exact hRo _) (by first | assumption | exact b01_r | exact bz_r | omega | (constructor <;> omega) | exact hM _ | exact hPo _ | exact hTa _ | exact hRo _) (by first | assumption | exact b01_r | exact bz_r | omega | (constructor <;> omega) | exact hM _ | exact hPo _ | exact hTa _ | exact hRo _) rfl ?_
    refine rj_isub (pc := 99) dX11_wouldNow_99 ?_
    rw [e2, w2]
    refine r_ireturn (pc := 100) .int dX11_wouldNow_100 rfl (by first | rfl | assumption) ?_
    refine ⟨?_, rfl⟩
    first | (rw [if_neg (by omega)]; done) | (rw [if_neg (by omega)]; rfl) | (rw [if_pos (by omega)]; done)
  by_cases e_1_4 : a = 4
  · rw [e_1_4] at ho_1
    obtain rfl : off_1 = 100 := ho_1.symm.trans (by decide)
    obtain rfl : tgt_1 = 101 := by omega
    refine r_aload_n (pc := 101) dX11_wouldNow_101 rfl (by first | rfl | exact isRefV_rf _) ?_
    refine rm_getf (pc := 102) dX11_wouldNow_102 fX11_11 (by assumption) rfl ?_
    refine rj_iconst (pc := 105) dX11_wouldNow_105 ?_
    refine rj_iald (pc := 106) (j := 1) dX11_wouldNow_106 (by first | exact isM.g0 (by assumption) | exact isM.g3 (by assumption) | exact isM.g4 (by assumption) | exact isM.g8 (by assumption) | exact isM.g7 (by assumption) | exact isM.g6 (by assumption) | exact isM.g5 (by assumption) | exact isM.g1 (by assumption) | exact isM.g2 (by assumption)) (by first | assumption | exact b01_r | exact bz_r | omega | (constructor <;> omega) | exact hM _ | exact hPo _ | exact hTa _ | exact hRo _) (by first | assumption | exact b01_r | exact bz_r | omega | (constructor <;> omega) | exact hM _ | exact hPo _ | exact hTa _ | exact hRo _) (by first | assumption | exact b01_r | exact bz_r | omega | (constructor <;> omega) | exact hM _ | exact hPo _ | exact hTa _ | exact hRo _) rfl ?_
    refine r_aload_n (pc := 107) dX11_wouldNow_107 rfl (by first | rfl | exact isRefV_rf _) ?_
    refine rm_getf (pc := 108) dX11_wouldNow_108 fX11_18 (by assumption) rfl ?_
    refine rj_iconst (pc := 111) dX11_wouldNow_111 ?_
    refine rj_iald (pc := 112) (j := 1) dX11_wouldNow_112 (by first | exact isM.g0 (by assumption) | exact isM.g3 (by assumption) | exact isM.g4 (by assumption) | exact isM.g8 (by assumption) | exact isM.g7 (by assumption) | exact isM.g6 (by assumption) | exact isM.g5 (by assumption) | exact isM.g1 (by assumption) | exact isM.g2 (by assumption)) (by first | assumption | exact b01_r | exact bz_r | omega | (constructor <;> omega) | exact hM _ | exact hPo _ | exact hTa _ | exact hRo _) (by first | assumption | exact b01_r | exact bz_r | omega | (constructor <;> omega) | exact hM _ | exact hPo _ | exact hTa _ | exact hRo _) (by first | assumption | exact b01_r | exact bz_r | omega | (constructor <;> omega) | exact hM _ | exact hPo _ | exact hTa _ | exact hRo _) rfl ?_
    refine rj_isub (pc := 113) dX11_wouldNow_113 ?_
    rw [e1, w1]
    refine r_ireturn (pc := 114) .int dX11_wouldNow_114 rfl (by first | rfl | assumption) ?_
    refine ⟨?_, rfl⟩
    first | (rw [if_neg (by omega)]; done) | (rw [if_neg (by omega)]; rfl) | (rw [if_pos (by omega)]; done)
  have eo_1 : off_1 = 114 := by
    rw [← ho_1]
    unfold tswOff
    rw [if_pos (by omega)]
  obtain rfl : tgt_1 = 115 := by omega
  refine r_aload_n (pc := 115) dX11_wouldNow_115 rfl (by first | rfl | exact isRefV_rf _) ?_
  refine r_callV0 (pc := 116) dX11_wouldNow_116 qX11_held kX11_276 vX11_held (by exact isM.gx (by assumption)) rfl rfl (Nat.le_of_ble_eq_true rfl) (m_held _ hB0 hM (N := 0) (by rw [e1]; rfl) (by decide)) (fun v_116 h_116 q_116 => ?_)
  obtain ⟨rfl, rfl⟩ := q_116
  refine r_ireturn (pc := 119) .int dX11_wouldNow_119 rfl (by first | rfl | assumption) ?_
  refine ⟨?_, rfl⟩
  first | (rw [if_neg (by omega)]; done) | (rw [if_neg (by omega)]; rfl) | (rw [if_pos (by omega)]; done)
set_option maxHeartbeats 4000000 in
set_option maxRecDepth 100000 in
theorem mf_would {G : mG} {l : Launch} (d : Nat) {h : mH} {x : Nat} {m kp was pool tape pln pap rwd rw : Nat → Int} (hB : isM h x (mFs x 0 0 0 0 0 0 0 0 0 0 0 4) m kp was pool tape pln pap rwd rw) (hF : fresM m rwd tape) {a : Int} (ha : InR a) {b : Int} (hb : InR b) : RUNM G l (d + 11) mX11_would [.ref x, .int (J a), .int (J b)] h (fun v h' => v = some (.int (J (if a = 0 ∧ 0 ≤ b ∧ b ≤ 5 then (if b = 2 then -1 else 0) else -1))) ∧ MO x h h') := by
  have hF2 := hF
  obtain ⟨hM, e0, e1, e2, e3, e4, e5, e6, e7, e10, e19, e21, hRo, er, h40, hTa⟩ := hF
  have hB0 := hB
  have e18 := e10 18 (by decide) (by decide)
  dsimp only [mFs] at hB
  refine RUNM.of (by decide +kernel) (Nat.le_of_ble_eq_true rfl) ?_
  refine r_aload_n (pc := 0) dX11_would_0 rfl (by first | rfl | exact isRefV_rf _) ?_
  refine r_iload_n (pc := 1) dX11_would_1 rfl ?_
  refine r_callV1 (pc := 2) dX11_would_2 qX11_isScope kX11_50 vX11_isScope (by exact isM.gx (by assumption)) rfl rfl (Nat.le_of_ble_eq_true rfl) (m_isScope _ hB0 ha ⟨by omega, by omega⟩) (fun v_2 h_2 q_2 => ?_)
  obtain ⟨rfl, rfl⟩ := q_2
  refine rj_if_eq (pc := 5) (tgt := 17) dX11_would_5 (by decide) (by first | assumption | exact b01_r | exact bz_r | omega | (constructor <;> omega) | exact hM _ | exact hPo _ | exact hTa _ | exact hRo _) (fun c_5 => ?_) (fun c_5 => ?_)
  · try simp only [b01_0, bz_0, Classical.not_not] at c_5
    refine rj_iconst (pc := 17) dX11_would_17 ?_
    refine r_ireturn (pc := 18) .int dX11_would_18 rfl (by first | rfl | assumption) ?_
    exact ⟨by rw [if_neg (by omega)], MO.refl⟩
  · try simp only [b01_0, bz_0, Classical.not_not] at c_5
    refine r_iload_n (pc := 8) dX11_would_8 rfl ?_
    refine rj_iconst (pc := 9) dX11_would_9 ?_
    refine rj_iconst (pc := 10) dX11_would_10 ?_
    refine r_callS3 (pc := 11) dX11_would_11 qX11_isIn kX11_46 sX11_isIn (Nat.le_of_ble_eq_true rfl) (m_isIn _ hb (by decide) (by decide)) (fun v_11 h_11 q_11 => ?_)
    obtain ⟨rfl, rfl⟩ := q_11
    refine rj_if_ne (pc := 14) (tgt := 19) dX11_would_14 (by decide) (by first | assumption | exact b01_r | exact bz_r | omega | (constructor <;> omega) | exact hM _ | exact hPo _ | exact hTa _ | exact hRo _) (fun c_14 => ?_) (fun c_14 => ?_)
    · try simp only [b01_0, bz_0, Classical.not_not] at c_14
      obtain rfl : a = 0 := by omega
      refine r_aload_n (pc := 19) dX11_would_19 rfl (by first | rfl | exact isRefV_rf _) ?_
      refine r_iload_n (pc := 20) dX11_would_20 rfl ?_
      refine r_callV1 (pc := 21) dX11_would_21 qX11_isOpen kX11_146 vX11_isOpen (by exact isM.gx (by assumption)) rfl rfl (Nat.le_of_ble_eq_true rfl) (m_isOpen _ hB0 hM (by omega) (a := 0) (by decide)) (fun v_21 h_21 q_21 => ?_)
      obtain ⟨rfl, rfl⟩ := q_21
      refine rj_if_ne (pc := 24) (tgt := 30) dX11_would_24 (by decide) (by first | assumption | exact b01_r | exact bz_r | omega | (constructor <;> omega) | exact hM _ | exact hPo _ | exact hTa _ | exact hRo _) (fun c_24 => ?_) (fun c_24 => ?_)
      · try simp only [b01_0, bz_0, Classical.not_not] at c_24
        refine r_aload_n (pc := 30) dX11_would_30 rfl (by first | rfl | exact isRefV_rf _) ?_
        refine rm_getf (pc := 31) dX11_would_31 fX11_11 (by assumption) rfl ?_
        refine r_aload_n (pc := 34) dX11_would_34 rfl (by first | rfl | exact isRefV_rf _) ?_
        refine rm_getf (pc := 35) dX11_would_35 fX11_18 (by assumption) rfl ?_
        refine r_callS2 (pc := 38) dX11_would_38 qX11_copies kX11_279 sX11_copies (Nat.le_of_ble_eq_true rfl) (m_copies _ (mAd_ne (by decide)) hB0.g0 hB0.g2 (hB0.loA 2)) (fun v_38 h_38 q_38 => ?_)
        obtain ⟨rfl, o_38, S_38⟩ := q_38
        have B_38 := hB0.of2 o_38 S_38
        dsimp only [mFs] at B_38
        refine r_aload_n (pc := 41) dX11_would_41 rfl (by first | rfl | exact isRefV_rf _) ?_
        refine r_iload_n (pc := 42) dX11_would_42 rfl ?_
        refine r_callV1 (pc := 43) dX11_would_43 qX11_shut kX11_283 vX11_shut (by exact isM.gx (by assumption)) rfl rfl (Nat.le_of_ble_eq_true rfl) (mf_shutW _ B_38 hF2) (fun v_43 h_43 q_43 => ?_)
        obtain ⟨rfl, ⟨m', B_43, hM2, f1, f2, f5⟩, S_43⟩ := q_43
        have B_43b := B_43
        dsimp only [mFs] at B_43b
        refine r_pop (pc := 46) dX11_would_46 (by first | rfl | (cases ‹Option Nat› <;> rfl)) ?_
        refine r_aload_n (pc := 47) dX11_would_47 rfl (by first | rfl | exact isRefV_rf _) ?_
        refine r_iload_n (pc := 48) dX11_would_48 rfl ?_
        refine r_callV1 (pc := 49) dX11_would_49 qX11_wouldNow kX11_286 vX11_wouldNow (by exact isM.gx (by assumption)) rfl rfl (Nat.le_of_ble_eq_true rfl) (mf_wouldNow _ B_43 hM2 f1 f2 f5 ((cpF_at (by decide)).trans e1) ((cpF_at (by decide)).trans e2) hb (by omega)) (fun v_49 h_49 q_49 => ?_)
        obtain ⟨rfl, rfl⟩ := q_49
        refine r_istore_n (pc := 52) dX11_would_52 (Nat.le_of_ble_eq_true rfl) ?_
        dsimp only [lsSt, List.set, mLs, mEnt]
        refine r_aload_n (pc := 53) dX11_would_53 rfl (by first | rfl | exact isRefV_rf _) ?_
        refine rm_getf (pc := 54) dX11_would_54 fX11_18 (by assumption) rfl ?_
        refine r_aload_n (pc := 57) dX11_would_57 rfl (by first | rfl | exact isRefV_rf _) ?_
        refine rm_getf (pc := 58) dX11_would_58 fX11_11 (by assumption) rfl ?_
        refine r_callS2 (pc := 61) dX11_would_61 qX11_copies kX11_279 sX11_copies (Nat.le_of_ble_eq_true rfl) (m_copies _ (mAd_ne (by decide)) B_43.g2 B_43.g0 (B_43.loA 0)) (fun v_61 h_61 q_61 => ?_)
        obtain ⟨rfl, o_61, S_61⟩ := q_61
        refine r_iload_n (pc := 64) dX11_would_64 rfl ?_
        refine r_ireturn (pc := 65) .int dX11_would_65 rfl (by first | rfl | assumption) ?_
        exact ⟨by rw [if_pos (show (0 : Int) = 0 ∧ 0 ≤ b ∧ b ≤ 5 by omega)], MO.trans (MO.cp (k := 2) (by decide) S_38) (MO.trans (MO.same S_43) (MO.cp (k := 0) (by decide) S_61))⟩
      · try simp only [b01_0, bz_0, Classical.not_not] at c_24
        exact absurd ⟨by decide, by omega, e18⟩ c_24
    · try simp only [b01_0, bz_0, Classical.not_not] at c_14
      refine rj_iconst (pc := 17) dX11_would_17 ?_
      refine r_ireturn (pc := 18) .int dX11_would_18 rfl (by first | rfl | assumption) ?_
      exact ⟨by rw [if_neg (by omega)], MO.refl⟩

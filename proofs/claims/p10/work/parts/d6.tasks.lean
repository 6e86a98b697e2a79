/-! ===== the class: tasks asked and ranked, the tape cleared, on any keeper ===== -/
set_option maxHeartbeats 4000000 in
set_option maxRecDepth 100000 in
theorem k_mayBe {G : mG} {l : Launch} (d : Nat) {h : mH} {a : Int} (ha : InR a) : RUNM G l (d) mX10_mayBePriority [.int (J a)] h (fun v h' => v = some (.int (J (b01 (-99 ≤ a ∧ a ≤ 99)))) ∧ h' = h) := by
  refine RUNM.of (by decide +kernel) (Nat.le_of_ble_eq_true rfl) ?_
  refine r_iload_n (pc := 0) dX10_mayBePriority_0 rfl ?_
  refine rj_bipush (pc := 1) dX10_mayBePriority_1 (by decide +kernel) ?_
  refine rj_icmp_lt (pc := 3) (tgt := 16) dX10_mayBePriority_3 (by decide) (by first | exact b01_r | exact bz_r | omega | (constructor <;> omega) | apply_assumption | (apply atF_r; assumption) | fail "no range") (by first | exact b01_r | exact bz_r | omega | (constructor <;> omega) | apply_assumption | (apply atF_r; assumption) | fail "no range") (fun c_3 => ?_) (fun c_3 => ?_)
  · refine rj_iconst (pc := 16) dX10_mayBePriority_16 ?_
    refine r_ireturn (pc := 17) .boolean dX10_mayBePriority_17 rfl (by first | exact nar_J0 | exact nar_J1 | exact nar_b01 | exact nar_bz) ?_
    first
    | exact ⟨rfl, rfl⟩
    | exact ⟨vf (by omega), rfl⟩
    | exact ⟨vt (by omega), rfl⟩
  · refine r_iload_n (pc := 6) dX10_mayBePriority_6 rfl ?_
    refine rj_bipush (pc := 7) dX10_mayBePriority_7 (by decide +kernel) ?_
    refine rj_icmp_gt (pc := 9) (tgt := 16) dX10_mayBePriority_9 (by decide) (by first | exact b01_r | exact bz_r | omega | (constructor <;> omega) | apply_assumption | (apply atF_r; assumption) | fail "no range") (by first | exact b01_r | exact bz_r | omega | (constructor <;> omega) | apply_assumption | (apply atF_r; assumption) | fail "no range") (fun c_9 => ?_) (fun c_9 => ?_)
    · refine rj_iconst (pc := 16) dX10_mayBePriority_16 ?_
      refine r_ireturn (pc := 17) .boolean dX10_mayBePriority_17 rfl (by first | exact nar_J0 | exact nar_J1 | exact nar_b01 | exact nar_bz) ?_
      first
      | exact ⟨rfl, rfl⟩
      | exact ⟨vf (by omega), rfl⟩
      | exact ⟨vt (by omega), rfl⟩
    · refine rj_iconst (pc := 12) dX10_mayBePriority_12 ?_
      refine r_goto (pc := 13) (tgt := 17) dX10_mayBePriority_13 (by decide) ?_
      refine r_ireturn (pc := 17) .boolean dX10_mayBePriority_17 rfl (by first | exact nar_J0 | exact nar_J1 | exact nar_b01 | exact nar_bz) ?_
      first
      | exact ⟨rfl, rfl⟩
      | exact ⟨vf (by omega), rfl⟩
      | exact ⟨vt (by omega), rfl⟩
set_option maxHeartbeats 4000000 in
set_option maxRecDepth 100000 in
theorem kg_cancel {G : mG} {l : Launch} (d : Nat) {h : mH} {x : Nat} {kp tk : Option Nat} {zr : Nat → Int} {fr : Nat → Nat → Int} {p e o zt : Int} {ft : Nat → Int} {zs : Int} {fs : Nat → Int} {b za : Int} {fa : Nat → Int} {c : Nat → Int} {C : Nat → Nat → Int} {nm : Nat → Int64} {g : Nat → Option Nat} (hK : isK h x kp tk zr fr p e o zt ft zs fs b za fa c C nm g) (hc : ∀ q, InR (c q)) (hC : ∀ k q, InR (C k q)) {a : Int} (ha : InR a) : RUNM G l (d + 9) mX10_cancel [.ref x, .int (J a)] h (fun v h' => (¬ inW c 2 10 a ∧ v = some (.int (J (-1))) ∧ h' = h) ∨ (inW c 2 10 a ∧ ¬ c (489 + 9 * a.toNat) = 0 ∧ v = some (.int (J (-3))) ∧ h' = h) ∨ ((inW c 2 10 a ∧ c (489 + 9 * a.toNat) = 0) ∧ v = some (.int (J (if c (496 + 9 * a.toNat) = 0 then 1 else 0))) ∧ isK h' x kp tk zr fr p e o zt ft zs fs b za fa (updI c (496 + 9 * a.toNat) 1) (C) nm g ∧ Same (kBlk x) h h')) := by
  refine RUNM.of (by decide +kernel) (Nat.le_of_ble_eq_true rfl) ?_
  have hD := hK.d
  have hS := hK.s
  have hR := hK.r
  have hW := hK.w
  refine r_aload_n (pc := 0) dX10_cancel_0 rfl (by first | rfl | exact isRefV_rf _) ?_
  refine r_getf (pc := 1) dX10_cancel_1 fX10_51 (by first | assumption | exact isI.gx (by assumption) | exact isI.gc (by assumption) | exact isW.gx (by assumption) | exact isW.gF (by assumption) | exact isW.gT (by assumption) (by omega) | exact isW.gS (by assumption) (by omega) | exact isW.gK (by assumption) (by omega) | exact isW.g1 (by assumption) | exact isW.g2 (by assumption) | exact isW.g3 (by assumption) | exact isI.gx (isW.i0 (by assumption)) | exact isI.gc (isW.i0 (by assumption)) | exact isI.gx (isW.i1 (by assumption)) | exact isI.gc (isW.i1 (by assumption)) | exact isI.gx (isW.i2 (by assumption)) | exact isI.gc (isW.i2 (by assumption)) | exact isI.gx (isW.i3 (by assumption)) | exact isI.gc (isW.i3 (by assumption)) | exact isI.gx (isW.i4 (by assumption)) | exact isI.gc (isW.i4 (by assumption)) | exact isI.gx (isW.i5 (by assumption)) | exact isI.gc (isW.i5 (by assumption)) | exact isR.gx (by assumption) | exact isRd.gx (by assumption) | exact isSp.gx (by assumption) | exact isI.gx (isR.i (by assumption)) | exact isI.gx (isRd.i (by assumption)) | exact isI.gc (isRd.i (by assumption)) | exact isI.gx (isSp.i (by assumption)) | exact isW.gx (isR.w (by assumption)) | exact isW.gF (isR.w (by assumption)) | exact isK.gx (by assumption) | exact isK.gr (by assumption) | exact isI.gx (isK.row (by assumption) (by omega)) | exact isI.gc (isK.row (by assumption) (by omega)) | fail "no such object") (by rfl) ?_
  refine r_iload_n (pc := 4) dX10_cancel_4 rfl ?_
  refine r_callV1 (pc := 5) dX10_cancel_5 qX9_taskAt kX10_79 vX9_taskAt (by first | assumption | exact isI.gx (by assumption) | exact isI.gc (by assumption) | exact isW.gx (by assumption) | exact isW.gF (by assumption) | exact isW.gT (by assumption) (by omega) | exact isW.gS (by assumption) (by omega) | exact isW.gK (by assumption) (by omega) | exact isW.g1 (by assumption) | exact isW.g2 (by assumption) | exact isW.g3 (by assumption) | exact isI.gx (isW.i0 (by assumption)) | exact isI.gc (isW.i0 (by assumption)) | exact isI.gx (isW.i1 (by assumption)) | exact isI.gc (isW.i1 (by assumption)) | exact isI.gx (isW.i2 (by assumption)) | exact isI.gc (isW.i2 (by assumption)) | exact isI.gx (isW.i3 (by assumption)) | exact isI.gc (isW.i3 (by assumption)) | exact isI.gx (isW.i4 (by assumption)) | exact isI.gc (isW.i4 (by assumption)) | exact isI.gx (isW.i5 (by assumption)) | exact isI.gc (isW.i5 (by assumption)) | exact isR.gx (by assumption) | exact isRd.gx (by assumption) | exact isSp.gx (by assumption) | exact isI.gx (isR.i (by assumption)) | exact isI.gx (isRd.i (by assumption)) | exact isI.gc (isRd.i (by assumption)) | exact isI.gx (isSp.i (by assumption)) | exact isW.gx (isR.w (by assumption)) | exact isW.gF (isR.w (by assumption)) | exact isK.gx (by assumption) | exact isK.gr (by assumption) | exact isI.gx (isK.row (by assumption) (by omega)) | exact isI.gc (isK.row (by assumption) (by omega)) | fail "no such object") rfl rfl (Nat.le_of_ble_eq_true rfl) (cw_taskAt _ hW hc ha) (fun v_5 h_5 q_5 => ?_)
  obtain ⟨q1_5, rfl⟩ := q_5
  by_cases e_5 : inW c 2 10 a
  · obtain rfl := tkAt_P e_5 q1_5
    refine r_astore_n (pc := 8) dX10_cancel_8 (Nat.le_of_ble_eq_true rfl) (by first | rfl | exact isRefV_rf _) ?_
    dsimp only [lsSt, List.set, mLs, mEnt]
    refine r_aload_n (pc := 9) dX10_cancel_9 rfl (by first | rfl | exact isRefV_rf _) ?_
    refine r_ifnonnull (pc := 10) (tgt := 15) dX10_cancel_10 (by decide) (by first | rfl | exact isRefV_rf _) (fun a_10 c_10 => ?_) (fun c_10 => by cases c_10)
    refine r_aload_n (pc := 15) dX10_cancel_15 rfl (by first | rfl | exact isRefV_rf _) ?_
    refine r_getf (pc := 16) dX10_cancel_16 fX10_230 (by first | assumption | exact isI.gx (by assumption) | exact isI.gc (by assumption) | exact isW.gx (by assumption) | exact isW.gF (by assumption) | exact isW.gT (by assumption) (by omega) | exact isW.gS (by assumption) (by omega) | exact isW.gK (by assumption) (by omega) | exact isW.g1 (by assumption) | exact isW.g2 (by assumption) | exact isW.g3 (by assumption) | exact isI.gx (isW.i0 (by assumption)) | exact isI.gc (isW.i0 (by assumption)) | exact isI.gx (isW.i1 (by assumption)) | exact isI.gc (isW.i1 (by assumption)) | exact isI.gx (isW.i2 (by assumption)) | exact isI.gc (isW.i2 (by assumption)) | exact isI.gx (isW.i3 (by assumption)) | exact isI.gc (isW.i3 (by assumption)) | exact isI.gx (isW.i4 (by assumption)) | exact isI.gc (isW.i4 (by assumption)) | exact isI.gx (isW.i5 (by assumption)) | exact isI.gc (isW.i5 (by assumption)) | exact isR.gx (by assumption) | exact isRd.gx (by assumption) | exact isSp.gx (by assumption) | exact isI.gx (isR.i (by assumption)) | exact isI.gx (isRd.i (by assumption)) | exact isI.gc (isRd.i (by assumption)) | exact isI.gx (isSp.i (by assumption)) | exact isW.gx (isR.w (by assumption)) | exact isW.gF (isR.w (by assumption)) | exact isK.gx (by assumption) | exact isK.gr (by assumption) | exact isI.gx (isK.row (by assumption) (by omega)) | exact isI.gc (isK.row (by assumption) (by omega)) | fail "no such object") (by rfl) ?_
    refine rj_if_eq (pc := 19) (tgt := 25) dX10_cancel_19 (by decide) (by first | exact b01_r | exact bz_r | omega | (constructor <;> omega) | apply_assumption | (apply atF_r; assumption) | fail "no range") (fun c_19 => ?_) (fun c_19 => ?_)
    · try simp only [b01_0, bz_0, Classical.not_not] at c_19
      refine r_aload_n (pc := 25) dX10_cancel_25 rfl (by first | rfl | exact isRefV_rf _) ?_
      refine r_getf (pc := 26) dX10_cancel_26 fX10_254 (by first | assumption | exact isI.gx (by assumption) | exact isI.gc (by assumption) | exact isW.gx (by assumption) | exact isW.gF (by assumption) | exact isW.gT (by assumption) (by omega) | exact isW.gS (by assumption) (by omega) | exact isW.gK (by assumption) (by omega) | exact isW.g1 (by assumption) | exact isW.g2 (by assumption) | exact isW.g3 (by assumption) | exact isI.gx (isW.i0 (by assumption)) | exact isI.gc (isW.i0 (by assumption)) | exact isI.gx (isW.i1 (by assumption)) | exact isI.gc (isW.i1 (by assumption)) | exact isI.gx (isW.i2 (by assumption)) | exact isI.gc (isW.i2 (by assumption)) | exact isI.gx (isW.i3 (by assumption)) | exact isI.gc (isW.i3 (by assumption)) | exact isI.gx (isW.i4 (by assumption)) | exact isI.gc (isW.i4 (by assumption)) | exact isI.gx (isW.i5 (by assumption)) | exact isI.gc (isW.i5 (by assumption)) | exact isR.gx (by assumption) | exact isRd.gx (by assumption) | exact isSp.gx (by assumption) | exact isI.gx (isR.i (by assumption)) | exact isI.gx (isRd.i (by assumption)) | exact isI.gc (isRd.i (by assumption)) | exact isI.gx (isSp.i (by assumption)) | exact isW.gx (isR.w (by assumption)) | exact isW.gF (isR.w (by assumption)) | exact isK.gx (by assumption) | exact isK.gr (by assumption) | exact isI.gx (isK.row (by assumption) (by omega)) | exact isI.gc (isK.row (by assumption) (by omega)) | fail "no such object") (by rfl) ?_
      refine rj_if_eq (pc := 29) (tgt := 36) dX10_cancel_29 (by decide) (by first | exact b01_r | exact bz_r | omega | (constructor <;> omega) | apply_assumption | (apply atF_r; assumption) | fail "no range") (fun c_29 => ?_) (fun c_29 => ?_)
      · try simp only [b01_0, bz_0, Classical.not_not] at c_29
        refine rj_iconst (pc := 36) dX10_cancel_36 ?_
        refine r_istore_n (pc := 37) dX10_cancel_37 (Nat.le_of_ble_eq_true rfl) ?_
        dsimp only [lsSt, List.set, mLs, mEnt]
        refine r_aload_n (pc := 38) dX10_cancel_38 rfl (by first | rfl | exact isRefV_rf _) ?_
        refine rj_iconst (pc := 39) dX10_cancel_39 ?_
        refine rc_putK10 (pc := 40) dX10_cancel_40 fX10_254 (by assumption) (by omega) (by first | exact nar_J0 | exact nar_J1 | exact nar_b01 | assumption) (by first | exact fit_J0 | exact fit_J1 | assumption) (fun h_40 hW_40 hS_40 => ?_)
        refine r_iload_n (pc := 43) dX10_cancel_43 rfl ?_
        refine r_ireturn (pc := 44) .int dX10_cancel_44 rfl (by first | rfl | assumption) ?_
        first
        | exact Or.inl ⟨by assumption, rfl, rfl⟩
        | exact Or.inr (Or.inl ⟨by assumption, by assumption, rfl, rfl⟩)
        | (refine Or.inr (Or.inr ⟨⟨by assumption, by assumption⟩, ?_, hK.ofW hS_40 hW_40, same_kw hS_40⟩); first | (rw [if_pos (by assumption)]; done) | (rw [if_neg (by assumption)]; done))
      · try simp only [b01_0, bz_0, Classical.not_not] at c_29
        refine rj_iconst (pc := 32) dX10_cancel_32 ?_
        refine r_goto (pc := 33) (tgt := 37) dX10_cancel_33 (by decide) ?_
        refine r_istore_n (pc := 37) dX10_cancel_37 (Nat.le_of_ble_eq_true rfl) ?_
        dsimp only [lsSt, List.set, mLs, mEnt]
        refine r_aload_n (pc := 38) dX10_cancel_38 rfl (by first | rfl | exact isRefV_rf _) ?_
        refine rj_iconst (pc := 39) dX10_cancel_39 ?_
        refine rc_putK10 (pc := 40) dX10_cancel_40 fX10_254 (by assumption) (by omega) (by first | exact nar_J0 | exact nar_J1 | exact nar_b01 | assumption) (by first | exact fit_J0 | exact fit_J1 | assumption) (fun h_40 hW_40 hS_40 => ?_)
        refine r_iload_n (pc := 43) dX10_cancel_43 rfl ?_
        refine r_ireturn (pc := 44) .int dX10_cancel_44 rfl (by first | rfl | assumption) ?_
        first
        | exact Or.inl ⟨by assumption, rfl, rfl⟩
        | exact Or.inr (Or.inl ⟨by assumption, by assumption, rfl, rfl⟩)
        | (refine Or.inr (Or.inr ⟨⟨by assumption, by assumption⟩, ?_, hK.ofW hS_40 hW_40, same_kw hS_40⟩); first | (rw [if_pos (by assumption)]; done) | (rw [if_neg (by assumption)]; done))
    · try simp only [b01_0, bz_0, Classical.not_not] at c_19
      refine rj_bipush (pc := 22) dX10_cancel_22 (by decide +kernel) ?_
      refine r_ireturn (pc := 24) .int dX10_cancel_24 rfl (by first | rfl | assumption) ?_
      first
      | exact Or.inl ⟨by assumption, rfl, rfl⟩
      | exact Or.inr (Or.inl ⟨by assumption, by assumption, rfl, rfl⟩)
      | (refine Or.inr (Or.inr ⟨⟨by assumption, by assumption⟩, ?_, hK.ofW hS_40 hW_40, same_kw hS_40⟩); first | (rw [if_pos (by assumption)]; done) | (rw [if_neg (by assumption)]; done))
  · obtain rfl := tkAt_N e_5 q1_5
    refine r_astore_n (pc := 8) dX10_cancel_8 (Nat.le_of_ble_eq_true rfl) (by first | rfl | exact isRefV_rf _) ?_
    dsimp only [lsSt, List.set, mLs, mEnt]
    refine r_aload_n (pc := 9) dX10_cancel_9 rfl (by first | rfl | exact isRefV_rf _) ?_
    refine r_ifnonnull (pc := 10) (tgt := 15) dX10_cancel_10 (by decide) (by first | rfl | exact isRefV_rf _) (fun a_10 c_10 => by cases c_10) (fun c_10 => ?_)
    refine rj_iconst (pc := 13) dX10_cancel_13 ?_
    refine r_ireturn (pc := 14) .int dX10_cancel_14 rfl (by first | rfl | assumption) ?_
    first
    | exact Or.inl ⟨by assumption, rfl, rfl⟩
    | exact Or.inr (Or.inl ⟨by assumption, by assumption, rfl, rfl⟩)
    | (refine Or.inr (Or.inr ⟨⟨by assumption, by assumption⟩, ?_, hK.ofW hS_40 hW_40, same_kw hS_40⟩); first | (rw [if_pos (by assumption)]; done) | (rw [if_neg (by assumption)]; done))
set_option maxHeartbeats 4000000 in
set_option maxRecDepth 100000 in
theorem kg_rank {G : mG} {l : Launch} (d : Nat) {h : mH} {x : Nat} {kp tk : Option Nat} {zr : Nat → Int} {fr : Nat → Nat → Int} {p e o zt : Int} {ft : Nat → Int} {zs : Int} {fs : Nat → Int} {b za : Int} {fa : Nat → Int} {c : Nat → Int} {C : Nat → Nat → Int} {nm : Nat → Int64} {g : Nat → Option Nat} (hK : isK h x kp tk zr fr p e o zt ft zs fs b za fa c C nm g) (hc : ∀ q, InR (c q)) (hC : ∀ k q, InR (C k q)) {a : Int} (ha : InR a) {i : Int} (hi : InR i) : RUNM G l (d + 9) mX10_rank [.ref x, .int (J a), .int (J i)] h (fun v h' => (¬ inW c 2 10 a ∧ v = some (.int (J (-1))) ∧ h' = h) ∨ (inW c 2 10 a ∧ ¬ (-99 ≤ i ∧ i ≤ 99) ∧ v = some (.int (J (-2))) ∧ h' = h) ∨ ((inW c 2 10 a ∧ (-99 ≤ i ∧ i ≤ 99)) ∧ ¬ c (489 + 9 * a.toNat) = 0 ∧ v = some (.int (J (-3))) ∧ h' = h) ∨ ((inW c 2 10 a ∧ (-99 ≤ i ∧ i ≤ 99)) ∧ c (489 + 9 * a.toNat) = 0 ∧ v = some (.int (J (c (490 + 9 * a.toNat) + 100))) ∧ isK h' x kp tk zr fr p e o zt ft zs fs b za fa (updI c (490 + 9 * a.toNat) i) (C) nm g ∧ Same (kBlk x) h h')) := by
  refine RUNM.of (by decide +kernel) (Nat.le_of_ble_eq_true rfl) ?_
  have hD := hK.d
  have hS := hK.s
  have hR := hK.r
  have hW := hK.w
  refine r_aload_n (pc := 0) dX10_rank_0 rfl (by first | rfl | exact isRefV_rf _) ?_
  refine r_getf (pc := 1) dX10_rank_1 fX10_51 (by first | assumption | exact isI.gx (by assumption) | exact isI.gc (by assumption) | exact isW.gx (by assumption) | exact isW.gF (by assumption) | exact isW.gT (by assumption) (by omega) | exact isW.gS (by assumption) (by omega) | exact isW.gK (by assumption) (by omega) | exact isW.g1 (by assumption) | exact isW.g2 (by assumption) | exact isW.g3 (by assumption) | exact isI.gx (isW.i0 (by assumption)) | exact isI.gc (isW.i0 (by assumption)) | exact isI.gx (isW.i1 (by assumption)) | exact isI.gc (isW.i1 (by assumption)) | exact isI.gx (isW.i2 (by assumption)) | exact isI.gc (isW.i2 (by assumption)) | exact isI.gx (isW.i3 (by assumption)) | exact isI.gc (isW.i3 (by assumption)) | exact isI.gx (isW.i4 (by assumption)) | exact isI.gc (isW.i4 (by assumption)) | exact isI.gx (isW.i5 (by assumption)) | exact isI.gc (isW.i5 (by assumption)) | exact isR.gx (by assumption) | exact isRd.gx (by assumption) | exact isSp.gx (by assumption) | exact isI.gx (isR.i (by assumption)) | exact isI.gx (isRd.i (by assumption)) | exact isI.gc (isRd.i (by assumption)) | exact isI.gx (isSp.i (by assumption)) | exact isW.gx (isR.w (by assumption)) | exact isW.gF (isR.w (by assumption)) | exact isK.gx (by assumption) | exact isK.gr (by assumption) | exact isI.gx (isK.row (by assumption) (by omega)) | exact isI.gc (isK.row (by assumption) (by omega)) | fail "no such object") (by rfl) ?_
  refine r_iload_n (pc := 4) dX10_rank_4 rfl ?_
  refine r_callV1 (pc := 5) dX10_rank_5 qX9_taskAt kX10_79 vX9_taskAt (by first | assumption | exact isI.gx (by assumption) | exact isI.gc (by assumption) | exact isW.gx (by assumption) | exact isW.gF (by assumption) | exact isW.gT (by assumption) (by omega) | exact isW.gS (by assumption) (by omega) | exact isW.gK (by assumption) (by omega) | exact isW.g1 (by assumption) | exact isW.g2 (by assumption) | exact isW.g3 (by assumption) | exact isI.gx (isW.i0 (by assumption)) | exact isI.gc (isW.i0 (by assumption)) | exact isI.gx (isW.i1 (by assumption)) | exact isI.gc (isW.i1 (by assumption)) | exact isI.gx (isW.i2 (by assumption)) | exact isI.gc (isW.i2 (by assumption)) | exact isI.gx (isW.i3 (by assumption)) | exact isI.gc (isW.i3 (by assumption)) | exact isI.gx (isW.i4 (by assumption)) | exact isI.gc (isW.i4 (by assumption)) | exact isI.gx (isW.i5 (by assumption)) | exact isI.gc (isW.i5 (by assumption)) | exact isR.gx (by assumption) | exact isRd.gx (by assumption) | exact isSp.gx (by assumption) | exact isI.gx (isR.i (by assumption)) | exact isI.gx (isRd.i (by assumption)) | exact isI.gc (isRd.i (by assumption)) | exact isI.gx (isSp.i (by assumption)) | exact isW.gx (isR.w (by assumption)) | exact isW.gF (isR.w (by assumption)) | exact isK.gx (by assumption) | exact isK.gr (by assumption) | exact isI.gx (isK.row (by assumption) (by omega)) | exact isI.gc (isK.row (by assumption) (by omega)) | fail "no such object") rfl rfl (Nat.le_of_ble_eq_true rfl) (cw_taskAt _ hW hc ha) (fun v_5 h_5 q_5 => ?_)
  obtain ⟨q1_5, rfl⟩ := q_5
  by_cases e_5 : inW c 2 10 a
  · obtain rfl := tkAt_P e_5 q1_5
    refine r_astore_n (pc := 8) dX10_rank_8 (Nat.le_of_ble_eq_true rfl) (by first | rfl | exact isRefV_rf _) ?_
    dsimp only [lsSt, List.set, mLs, mEnt]
    refine r_aload_n (pc := 9) dX10_rank_9 rfl (by first | rfl | exact isRefV_rf _) ?_
    refine r_ifnonnull (pc := 10) (tgt := 15) dX10_rank_10 (by decide) (by first | rfl | exact isRefV_rf _) (fun a_10 c_10 => ?_) (fun c_10 => by cases c_10)
    refine r_iload_n (pc := 15) dX10_rank_15 rfl ?_
    refine r_callS1 (pc := 16) dX10_rank_16 qX10_mayBePriority kX10_237 sX10_mayBePriority (Nat.le_of_ble_eq_true rfl) (k_mayBe _ hi) (fun v_16 h_16 q_16 => ?_)
    obtain ⟨rfl, rfl⟩ := q_16
    refine rj_if_ne (pc := 19) (tgt := 25) dX10_rank_19 (by decide) (by first | exact b01_r | exact bz_r | omega | (constructor <;> omega) | apply_assumption | (apply atF_r; assumption) | fail "no range") (fun c_19 => ?_) (fun c_19 => ?_)
    · try simp only [b01_0, bz_0, Classical.not_not] at c_19
      refine r_aload_n (pc := 25) dX10_rank_25 rfl (by first | rfl | exact isRefV_rf _) ?_
      refine r_getf (pc := 26) dX10_rank_26 fX10_230 (by first | assumption | exact isI.gx (by assumption) | exact isI.gc (by assumption) | exact isW.gx (by assumption) | exact isW.gF (by assumption) | exact isW.gT (by assumption) (by omega) | exact isW.gS (by assumption) (by omega) | exact isW.gK (by assumption) (by omega) | exact isW.g1 (by assumption) | exact isW.g2 (by assumption) | exact isW.g3 (by assumption) | exact isI.gx (isW.i0 (by assumption)) | exact isI.gc (isW.i0 (by assumption)) | exact isI.gx (isW.i1 (by assumption)) | exact isI.gc (isW.i1 (by assumption)) | exact isI.gx (isW.i2 (by assumption)) | exact isI.gc (isW.i2 (by assumption)) | exact isI.gx (isW.i3 (by assumption)) | exact isI.gc (isW.i3 (by assumption)) | exact isI.gx (isW.i4 (by assumption)) | exact isI.gc (isW.i4 (by assumption)) | exact isI.gx (isW.i5 (by assumption)) | exact isI.gc (isW.i5 (by assumption)) | exact isR.gx (by assumption) | exact isRd.gx (by assumption) | exact isSp.gx (by assumption) | exact isI.gx (isR.i (by assumption)) | exact isI.gx (isRd.i (by assumption)) | exact isI.gc (isRd.i (by assumption)) | exact isI.gx (isSp.i (by assumption)) | exact isW.gx (isR.w (by assumption)) | exact isW.gF (isR.w (by assumption)) | exact isK.gx (by assumption) | exact isK.gr (by assumption) | exact isI.gx (isK.row (by assumption) (by omega)) | exact isI.gc (isK.row (by assumption) (by omega)) | fail "no such object") (by rfl) ?_
      refine rj_if_eq (pc := 29) (tgt := 35) dX10_rank_29 (by decide) (by first | exact b01_r | exact bz_r | omega | (constructor <;> omega) | apply_assumption | (apply atF_r; assumption) | fail "no range") (fun c_29 => ?_) (fun c_29 => ?_)
      · try simp only [b01_0, bz_0, Classical.not_not] at c_29
        refine r_aload_n (pc := 35) dX10_rank_35 rfl (by first | rfl | exact isRefV_rf _) ?_
        refine r_getf (pc := 36) dX10_rank_36 fX10_258 (by first | assumption | exact isI.gx (by assumption) | exact isI.gc (by assumption) | exact isW.gx (by assumption) | exact isW.gF (by assumption) | exact isW.gT (by assumption) (by omega) | exact isW.gS (by assumption) (by omega) | exact isW.gK (by assumption) (by omega) | exact isW.g1 (by assumption) | exact isW.g2 (by assumption) | exact isW.g3 (by assumption) | exact isI.gx (isW.i0 (by assumption)) | exact isI.gc (isW.i0 (by assumption)) | exact isI.gx (isW.i1 (by assumption)) | exact isI.gc (isW.i1 (by assumption)) | exact isI.gx (isW.i2 (by assumption)) | exact isI.gc (isW.i2 (by assumption)) | exact isI.gx (isW.i3 (by assumption)) | exact isI.gc (isW.i3 (by assumption)) | exact isI.gx (isW.i4 (by assumption)) | exact isI.gc (isW.i4 (by assumption)) | exact isI.gx (isW.i5 (by assumption)) | exact isI.gc (isW.i5 (by assumption)) | exact isR.gx (by assumption) | exact isRd.gx (by assumption) | exact isSp.gx (by assumption) | exact isI.gx (isR.i (by assumption)) | exact isI.gx (isRd.i (by assumption)) | exact isI.gc (isRd.i (by assumption)) | exact isI.gx (isSp.i (by assumption)) | exact isW.gx (isR.w (by assumption)) | exact isW.gF (isR.w (by assumption)) | exact isK.gx (by assumption) | exact isK.gr (by assumption) | exact isI.gx (isK.row (by assumption) (by omega)) | exact isI.gc (isK.row (by assumption) (by omega)) | fail "no such object") (by rfl) ?_
        refine r_istore (pc := 39) dX10_rank_39 (Nat.le_of_ble_eq_true rfl) ?_
        dsimp only [lsSt, List.set, mLs, mEnt]
        refine r_aload_n (pc := 41) dX10_rank_41 rfl (by first | rfl | exact isRefV_rf _) ?_
        refine r_iload_n (pc := 42) dX10_rank_42 rfl ?_
        refine rc_putK4 (pc := 43) dX10_rank_43 fX10_258 (by assumption) (by omega) (fun h_43 hW_43 hS_43 => ?_)
        refine r_iload (pc := 46) dX10_rank_46 rfl ?_
        refine rj_bipush (pc := 48) dX10_rank_48 (by decide +kernel) ?_
        refine rj_iadd (pc := 50) dX10_rank_50 ?_
        refine r_ireturn (pc := 51) .int dX10_rank_51 rfl (by first | rfl | assumption) ?_
        first
        | exact Or.inl ⟨by assumption, rfl, rfl⟩
        | exact Or.inr (Or.inl ⟨by assumption, by assumption, rfl, rfl⟩)
        | exact Or.inr (Or.inr (Or.inl ⟨⟨by assumption, by assumption⟩, by assumption, rfl, rfl⟩))
        | exact Or.inr (Or.inr (Or.inr ⟨⟨by assumption, by assumption⟩, by assumption, rfl, hK.ofW hS_43 hW_43, same_kw hS_43⟩))
      · try simp only [b01_0, bz_0, Classical.not_not] at c_29
        refine rj_bipush (pc := 32) dX10_rank_32 (by decide +kernel) ?_
        refine r_ireturn (pc := 34) .int dX10_rank_34 rfl (by first | rfl | assumption) ?_
        first
        | exact Or.inl ⟨by assumption, rfl, rfl⟩
        | exact Or.inr (Or.inl ⟨by assumption, by assumption, rfl, rfl⟩)
        | exact Or.inr (Or.inr (Or.inl ⟨⟨by assumption, by assumption⟩, by assumption, rfl, rfl⟩))
        | exact Or.inr (Or.inr (Or.inr ⟨⟨by assumption, by assumption⟩, by assumption, rfl, hK.ofW hS_43 hW_43, same_kw hS_43⟩))
    · try simp only [b01_0, bz_0, Classical.not_not] at c_19
      refine rj_bipush (pc := 22) dX10_rank_22 (by decide +kernel) ?_
      refine r_ireturn (pc := 24) .int dX10_rank_24 rfl (by first | rfl | assumption) ?_
      first
      | exact Or.inl ⟨by assumption, rfl, rfl⟩
      | exact Or.inr (Or.inl ⟨by assumption, by assumption, rfl, rfl⟩)
      | exact Or.inr (Or.inr (Or.inl ⟨⟨by assumption, by assumption⟩, by assumption, rfl, rfl⟩))
      | exact Or.inr (Or.inr (Or.inr ⟨⟨by assumption, by assumption⟩, by assumption, rfl, hK.ofW hS_43 hW_43, same_kw hS_43⟩))
  · obtain rfl := tkAt_N e_5 q1_5
    refine r_astore_n (pc := 8) dX10_rank_8 (Nat.le_of_ble_eq_true rfl) (by first | rfl | exact isRefV_rf _) ?_
    dsimp only [lsSt, List.set, mLs, mEnt]
    refine r_aload_n (pc := 9) dX10_rank_9 rfl (by first | rfl | exact isRefV_rf _) ?_
    refine r_ifnonnull (pc := 10) (tgt := 15) dX10_rank_10 (by decide) (by first | rfl | exact isRefV_rf _) (fun a_10 c_10 => by cases c_10) (fun c_10 => ?_)
    refine rj_iconst (pc := 13) dX10_rank_13 ?_
    refine r_ireturn (pc := 14) .int dX10_rank_14 rfl (by first | rfl | assumption) ?_
    first
    | exact Or.inl ⟨by assumption, rfl, rfl⟩
    | exact Or.inr (Or.inl ⟨by assumption, by assumption, rfl, rfl⟩)
    | exact Or.inr (Or.inr (Or.inl ⟨⟨by assumption, by assumption⟩, by assumption, rfl, rfl⟩))
    | exact Or.inr (Or.inr (Or.inr ⟨⟨by assumption, by assumption⟩, by assumption, rfl, hK.ofW hS_43 hW_43, same_kw hS_43⟩))
set_option maxHeartbeats 4000000 in
set_option maxRecDepth 100000 in
theorem kg_clear {G : mG} {l : Launch} (d : Nat) {h : mH} {x : Nat} {kp tk : Option Nat} {zr : Nat → Int} {fr : Nat → Nat → Int} {p e o zt : Int} {ft : Nat → Int} {zs : Int} {fs : Nat → Int} {b za : Int} {fa : Nat → Int} {c : Nat → Int} {C : Nat → Nat → Int} {nm : Nat → Int64} {g : Nat → Option Nat} (hK : isK h x kp tk zr fr p e o zt ft zs fs b za fa c C nm g) (hc : ∀ q, InR (c q)) (hC : ∀ k q, InR (C k q)) : RUNM G l (d + 9) mX10_clear [.ref x] h (fun v h' => v = some (.int (J zt)) ∧ isK h' x kp tk zr fr p e o 0 ft zs fs b za fa c C nm g ∧ Same (kBlk x) h h') := by
  refine RUNM.of (by decide +kernel) (Nat.le_of_ble_eq_true rfl) ?_
  have hD := hK.d
  have hS := hK.s
  have hR := hK.r
  have hW := hK.w
  refine r_aload_n (pc := 0) dX10_clear_0 rfl (by first | rfl | exact isRefV_rf _) ?_
  refine r_getf (pc := 1) dX10_clear_1 fX10_22 (by first | assumption | exact isI.gx (by assumption) | exact isI.gc (by assumption) | exact isW.gx (by assumption) | exact isW.gF (by assumption) | exact isW.gT (by assumption) (by omega) | exact isW.gS (by assumption) (by omega) | exact isW.gK (by assumption) (by omega) | exact isW.g1 (by assumption) | exact isW.g2 (by assumption) | exact isW.g3 (by assumption) | exact isI.gx (isW.i0 (by assumption)) | exact isI.gc (isW.i0 (by assumption)) | exact isI.gx (isW.i1 (by assumption)) | exact isI.gc (isW.i1 (by assumption)) | exact isI.gx (isW.i2 (by assumption)) | exact isI.gc (isW.i2 (by assumption)) | exact isI.gx (isW.i3 (by assumption)) | exact isI.gc (isW.i3 (by assumption)) | exact isI.gx (isW.i4 (by assumption)) | exact isI.gc (isW.i4 (by assumption)) | exact isI.gx (isW.i5 (by assumption)) | exact isI.gc (isW.i5 (by assumption)) | exact isR.gx (by assumption) | exact isRd.gx (by assumption) | exact isSp.gx (by assumption) | exact isI.gx (isR.i (by assumption)) | exact isI.gx (isRd.i (by assumption)) | exact isI.gc (isRd.i (by assumption)) | exact isI.gx (isSp.i (by assumption)) | exact isW.gx (isR.w (by assumption)) | exact isW.gF (isR.w (by assumption)) | exact isK.gx (by assumption) | exact isK.gr (by assumption) | exact isI.gx (isK.row (by assumption) (by omega)) | exact isI.gc (isK.row (by assumption) (by omega)) | fail "no such object") (by rfl) ?_
  refine r_getf (pc := 4) dX10_clear_4 fX10_55 (by first | assumption | exact isI.gx (by assumption) | exact isI.gc (by assumption) | exact isW.gx (by assumption) | exact isW.gF (by assumption) | exact isW.gT (by assumption) (by omega) | exact isW.gS (by assumption) (by omega) | exact isW.gK (by assumption) (by omega) | exact isW.g1 (by assumption) | exact isW.g2 (by assumption) | exact isW.g3 (by assumption) | exact isI.gx (isW.i0 (by assumption)) | exact isI.gc (isW.i0 (by assumption)) | exact isI.gx (isW.i1 (by assumption)) | exact isI.gc (isW.i1 (by assumption)) | exact isI.gx (isW.i2 (by assumption)) | exact isI.gc (isW.i2 (by assumption)) | exact isI.gx (isW.i3 (by assumption)) | exact isI.gc (isW.i3 (by assumption)) | exact isI.gx (isW.i4 (by assumption)) | exact isI.gc (isW.i4 (by assumption)) | exact isI.gx (isW.i5 (by assumption)) | exact isI.gc (isW.i5 (by assumption)) | exact isR.gx (by assumption) | exact isRd.gx (by assumption) | exact isSp.gx (by assumption) | exact isI.gx (isR.i (by assumption)) | exact isI.gx (isRd.i (by assumption)) | exact isI.gc (isRd.i (by assumption)) | exact isI.gx (isSp.i (by assumption)) | exact isW.gx (isR.w (by assumption)) | exact isW.gF (isR.w (by assumption)) | exact isK.gx (by assumption) | exact isK.gr (by assumption) | exact isI.gx (isK.row (by assumption) (by omega)) | exact isI.gc (isK.row (by assumption) (by omega)) | fail "no such object") (by rfl) ?_
  refine r_istore_n (pc := 7) dX10_clear_7 (Nat.le_of_ble_eq_true rfl) ?_
  dsimp only [lsSt, List.set, mLs, mEnt]
  refine r_aload_n (pc := 8) dX10_clear_8 rfl (by first | rfl | exact isRefV_rf _) ?_
  refine r_getf (pc := 9) dX10_clear_9 fX10_22 (by first | assumption | exact isI.gx (by assumption) | exact isI.gc (by assumption) | exact isW.gx (by assumption) | exact isW.gF (by assumption) | exact isW.gT (by assumption) (by omega) | exact isW.gS (by assumption) (by omega) | exact isW.gK (by assumption) (by omega) | exact isW.g1 (by assumption) | exact isW.g2 (by assumption) | exact isW.g3 (by assumption) | exact isI.gx (isW.i0 (by assumption)) | exact isI.gc (isW.i0 (by assumption)) | exact isI.gx (isW.i1 (by assumption)) | exact isI.gc (isW.i1 (by assumption)) | exact isI.gx (isW.i2 (by assumption)) | exact isI.gc (isW.i2 (by assumption)) | exact isI.gx (isW.i3 (by assumption)) | exact isI.gc (isW.i3 (by assumption)) | exact isI.gx (isW.i4 (by assumption)) | exact isI.gc (isW.i4 (by assumption)) | exact isI.gx (isW.i5 (by assumption)) | exact isI.gc (isW.i5 (by assumption)) | exact isR.gx (by assumption) | exact isRd.gx (by assumption) | exact isSp.gx (by assumption) | exact isI.gx (isR.i (by assumption)) | exact isI.gx (isRd.i (by assumption)) | exact isI.gc (isRd.i (by assumption)) | exact isI.gx (isSp.i (by assumption)) | exact isW.gx (isR.w (by assumption)) | exact isW.gF (isR.w (by assumption)) | exact isK.gx (by assumption) | exact isK.gr (by assumption) | exact isI.gx (isK.row (by assumption) (by omega)) | exact isI.gc (isK.row (by assumption) (by omega)) | fail "no such object") (by rfl) ?_
  refine rj_iconst (pc := 12) dX10_clear_12 ?_
  refine rc_putz (pc := 13) dX10_clear_13 fX10_55 (by first | assumption | exact isW.i0 (by assumption) | exact isW.i1 (by assumption) | exact isW.i2 (by assumption) | exact isW.i3 (by assumption) | exact isW.i4 (by assumption) | exact isW.i5 (by assumption) | exact isR.i (by assumption) | exact isRd.i (by assumption) | exact isSp.i (by assumption) | fail "no such row") (fun h_13 hI_13 hS_13 => ?_)
  refine r_iload_n (pc := 16) dX10_clear_16 rfl ?_
  refine r_ireturn (pc := 17) .int dX10_clear_17 rfl (by first | rfl | assumption) ?_
  exact ⟨rfl, hK.ofD (hS_13.mono (fun b hb => i_dBlk hb)) (hD.ofI hS_13 hI_13), same_kd (hS_13.mono (fun b hb => i_dBlk hb))⟩

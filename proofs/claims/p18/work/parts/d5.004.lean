section mg_d6
set_option maxHeartbeats 4000000 in
set_option maxRecDepth 100000 in
theorem kg_rank {G : mG} {l : Launch} (d : Nat) {h : mH} {x : Nat} {kp tk : Option Nat} {zr : Nat → Int} {fr : Nat → Nat → Int} {p e o zt : Int} {ft : Nat → Int} {zs : Int} {fs : Nat → Int} {b za : Int} {fa : Nat → Int} {c : Nat → Int} {C : Nat → Nat → Int} {nm : Nat → Int64} {g : Nat → Option Nat} (hK : isK h x kp tk zr fr p e o zt ft zs fs b za fa c C nm g) (hc : ∀ q, InR (c q)) (hC : ∀ k q, InR (C k q)) {a : Int} (ha : InR a) {i : Int} (hi : InR i) : RUNM G l (d + 9) mX10_rank [.ref x, .int (J a), .int (J i)] h (fun v h' => (¬ inW c 2 10 a ∧ v = some (.int (J (-1))) ∧ h' = h) ∨ (inW c 2 10 a ∧ ¬ (-99 ≤ i ∧ i ≤ 99) ∧ v = some (.int (J (-2))) ∧ h' = h) ∨ ((inW c 2 10 a ∧ (-99 ≤ i ∧ i ≤ 99)) ∧ ¬ c (489 + 9 * a.toNat) = 0 ∧ v = some (.int (J (-3))) ∧ h' = h) ∨ ((inW c 2 10 a ∧ (-99 ≤ i ∧ i ≤ 99)) ∧ c (489 + 9 * a.toNat) = 0 ∧ v = some (.int (J (c (490 + 9 * a.toNat) + 100))) ∧ isK h' x kp tk zr fr p e o zt ft zs fs b za fa (updI c (490 + 9 * a.toNat) i) (C) nm g ∧ Same (kBlk x) h h')) := by
  refine RUNM.of (by decide +kernel) (Nat.le_of_ble_eq_true rfl) ?_
  have hD := hK.d
  have hS := hK.s
  have hR := hK.r
  have hW := hK.w
  refine r_aload_n (pc := 0) dX10_rank_0 rfl (by first | rfl | exact isRefV_rf _) ?_
  refine r_getf (pc := 1) dX10_rank_1 fX10_51 (by first | assumption | exact isI.gx (by assumption) | exact isI.gc (by assumption) | exact isW.gx (by assumption) | exact isW.gF (by assumption) | exact isW.gT (by assumption) (by omega) | exact isW.gS (by assumption) (by omega) | exact isW.gK (by assumption) (by omega) | exact isW.g1 (by assumption) | exact isW.g2 (by assumption) | exact isW.g3 (by assumption) | exact isI.gx (isW.i0 (by assumption)) | exact isI.gc (isW.i0 (by assumption)) | exact isI.gx (isW.i1 (by assumption)) | exact isI.gc (isW.i1 (by assumption)) | exact isI.gx (isW.i2 (by assumption)) | exact isI.gc (isW.i2 (by assumption)) | exact isI.gx (isW.i3 (by assumption)) | exact isI.gc (isW.i3 (by assumption)) | exact isI.gx (isW.i4 (by assumption)) | exact isI.gc (isW.i4 (by assumption)) | exact isI.gx (isW.i5 (by assumption)) | exact isI.gc (isW.i5 (by assumption)) | exact isR.gx (by assumption) | exact isRd.gx (by assumption) | exact isSp.gx (by assumption) | exact isI.gx (isR.i (by assumption)) | exact isI.gx (isRd.i (by assumption)) | exact isI.gc (isRd.i (by assumption)) | exact isI.gx (isSp.i (by assumption)) | exact isW.gx (isR.w (by assumption)) | exact isW.gF (isR.w (by assumption)) | exact isK.gx (by assumption) | exact isK.gr (by assumption) | exact isI.gx (isK.row (by assumption) (by omega)) | exact isI.gc (isK.row (by assumption) (by omega)) | fail "no such object") (by rfl) ?_
  refine r_iload_n (pc := 4) dX10_rank_4 rfl ?_
  refine r_callV1 (pc := 5) dX10_rank_5 qX9_taskAt kX10_79 vX9_taskAt (by first | assumption | exact isI.gx (by assumption) | exact isI.gc (by assumption) | exact isW.gx (by assumption) | exact isW.gF (by assumption) | exact isW.gT (by assumption) (by omega) | exact isW.gS (by assumption) (by omega) | exact isW.gK (by assumption) (by omega) | exact isW.g1 (by assumption) | exact isW.g2 (by assumption) | exact isW.g3 (by assumption) | exact isI.gx (isW.i0 (by assumption)) | exact isI.gc (isW.i0 (by assumption)) | exact isI.gx (isW.i1 (by assumption)) | exact isI.gc (isW.i1 (by assumption)) | exact isI.gx (isW.i2 (by assumption)) | exact isI.gc (isW.i2 (by assumption)) | exact isI.gx (isW.i3 (by assumption)) | exact isI.gc (isW.i3 (by assumption)) | exact isI.gx (isW.i4 (by assumption)) | exact isI.gc (isW.i4 (by assumption)) | exact isI.gx (isW.i5 (by assumption)) | exact isI.gc (isW.i5 (by assumption)) | exact isR.gx (by assumption) | exact isRd.gx (by assumption) | exact isSp.gx (by assumption) | exact isI.gx (isR.i (by assumption)) | exact isI.gx (isRd.i (by assumption)) | exact isI.gc (isRd.i (by assumption)) | exact isI.gx (isSp.i (by assumption)) | exact isW.gx (isR.w (by assumption)) | exact isW.gF (isR.w (by assumption)) | exact isK.gx (by assumption) | exact isK.gr (by assumption) | exact isI.gx (isK.row (by assumption) (by omega)) | exact isI.gc (isK.row (by assumption) (by omega)) | fail "no such object") rfl rfl (Nat.le_of_ble_eq_true rfl) (cw_taskAt _ hW hc ha) (fun v_5 h_5 q_5 => ?_)
  obtain ⟨q1_5, rfl⟩ := q_5
  by_cases e_5 : inW c 2 10 a
  · obtain rfl := tkAt_P e_5 q1_5
    refine r_astore_n (pc := 8) dX10_rank_8 (Nat.le_of_ble_eq_true rfl) (by first | rfl | exact isRefV_rf _) ?_
    dsimp only [lsSt, List.set, mLs, mEnt]
    refine r_aload_n (pc := 9) dX10_rank_9 rfl (by first | rfl | exact isRefV_rf _) ?_
    refine r_ifnonnull (pc := 10) (tgt := 15) dX10_rank_10 (by decide) (by first | rfl | exact isRefV_rf _) (fun a_10 c_10 => ?_) (fun c_10 => by cases c_10)
    refine r_iload_n (pc := 15) dX10_rank_15 rfl ?_
    refine r_callS1 (pc := 16) dX10_rank_16 qX10_mayBePriority kX10_237 sX10_mayBePriority (Nat.le_of_ble_eq_true rfl) (k_mayBe _ hi) (fun v_16 h_16 q_16 => ?_)
    obtain ⟨rfl, rfl⟩ := q_16
    refine rj_if_ne (pc := 19) (tgt := 25) dX10_rank_19 (by decide) (by first | exact b01_r | exact bz_r | omega | (constructor <;> omega) | apply_assumption | (apply atF_r; assumption) | fail "no range") (fun c_19 => ?_) (fun c_19 => ?_)
    · try simp only [b01_0, bz_0, Classical.not_not] at c_19
      refine r_aload_n (pc := 25) dX10_rank_25 rfl (by first | rfl | exact isRefV_rf _) ?_
      refine r_getf (pc := 26) dX10_rank_26 fX10_230 (by first | assumption | exact isI.gx (by assumption) | exact isI.gc (by assumption) | exact isW.gx (by assumption) | exact isW.gF (by assumption) | exact isW.gT (by assumption) (by omega) | exact isW.gS (by assumption) (by omega) | exact isW.gK (by assumption) (by omega) | exact isW.g1 (by assumption) | exact isW.g2 (by assumption) | exact isW.g3 (by assumption) | exact isI.gx (isW.i0 (by assumption)) | exact isI.gc (isW.i0 (by assumption)) | exact isI.gx (isW.i1 (by assumption)) | exact isI.gc (isW.i1 (by assumption)) | exact isI.gx (isW.i2 (by assumption)) | exact isI.gc (isW.i2 (by assumption)) | exact isI.gx (isW.i3 (by assumption)) | exact isI.gc (isW.i3 (by assumption)) | exact isI.gx (isW.i4 (by assumption)) | exact isI.gc (isW.i4 (by assumption)) | exact isI.gx (isW.i5 (by assumption)) | exact isI.gc (isW.i5 (by assumption)) | exact isR.gx (by assumption) | exact isRd.gx (by assumption) | exact isSp.gx (by assumption) | exact isI.gx (isR.i (by assumption)) | exact isI.gx (isRd.i (by assumption)) | exact isI.gc (isRd.i (by assumption)) | exact isI.gx (isSp.i (by assumption)) | exact isW.gx (isR.w (by assumption)) | exact isW.gF (isR.w (by assumption)) | exact isK.gx (by assumption) | exact isK.gr (by assumption) | exact isI.gx (isK.row (by assumption) (by omega)) | exact isI.gc (isK.row (by assumption) (by omega)) | fail "no such object") (by rfl) ?_
      refine rj_if_eq (pc := 29) (tgt := 35) dX10_rank_29 (by decide) (by first | exact b01_r | exact bz_r | omega | (constructor <;> omega) | apply_assumption | (apply atF_r; assumption) | fail "no range") (fun c_29 => ?_) (fun c_29 => ?_)
      · try simp only [b01_0, bz_0, Classical.not_not] at c_29
        refine r_aload_n (pc := 35) dX10_rank_35 rfl (by first | rfl | exact isRefV_rf _) ?_
        refine r_getf (pc := 36) dX10_rank_36 fX10_258 (by first | assumption | exact isI.gx (by assumption) | exact isI.gc (by assumption) | exact isW.gx (by assumption) | exact isW.gF (by assumption) | exact isW.gT (by assumption) (by omega) | exact isW.gS (by assumption) (by omega) | exact isW.gK (by assumption) (by omega) | exact isW.g1 (by assumption) | exact isW.g2 (by assumption) | exact isW.g3 (by assumption) | exact isI.gx (isW.i0 (by assumption)) | exact isI.gc (isW.i0 (by assumption)) | exact isI.gx (isW.i1 (by assumption)) | exact isI.gc (isW.i1 (by assumption)) | exact isI.gx (isW.i2 (by assumption)) | exact isI.gc (isW.i2 (by assumption)) | exact isI.gx (isW.i3 (by assumption)) | exact isI.gc (isW.i3 (by assumption)) | exact isI.gx (isW.i4 (by assumption)) | exact isI.gc (isW.i4 (by assumption)) | exact isI.gx (isW.i5 (by assumption)) | exact isI.gc (isW.i5 (by assumption)) | exact isR.gx (by assumption) | exact isRd.gx (by assumption) | exact isSp.gx (by assumption) | exact isI.gx (isR.i (by assumption)) | exact isI.gx (isRd.i (by assumption)) | exact isI.gc (isRd.i (by assumption)) | exact isI.gx (isSp.i (by assumption)) | exact isW.gx (isR.w (by assumption)) | exact isW.gF (isR.w (by assumption)) | exact isK.gx (by assumption) | exact isK.gr (by assumption) | exact isI.gx (isK.row (by assumption) (by omega)) | exact isI.gc (isK.row (by assumption) (by omega)) | fail "no such object") (by rfl) ?_
        refine r_istore (pc := 39) dX10_rank_39 (Nat.le_of_ble_eq_true rfl) ?_
        dsimp only [lsSt, List.set, mLs, mEnt]
        refine r_aload_n (pc := 41) dX10_rank_41 rfl (by first | rfl | exact isRefV_rf _) ?_
        refine r_iload_n (pc := 42) dX10_rank_42 rfl ?_
        refine rc_putK4 (pc := 43) dX10_rank_43 fX10_258 (by assumption) (by omega) (fun h_43 hW_43 hS_43 => ?_)
        refine r_iload (pc := 46) dX10_rank_46 rfl ?_
        refine rj_bipush (pc := 48) dX10_rank_48 (by decide +kernel) ?_
        refine rj_iadd (pc := 50) dX10_rank_50 ?_
        refine r_ireturn (pc := 51) .int dX10_rank_51 rfl (by first | rfl | assumption) ?_
        first
        | exact Or.inl ⟨by assumption, rfl, rfl⟩
        | exact Or.inr (Or.inl ⟨by assumption, by assumption, rfl, rfl⟩)
        | exact Or.inr (Or.inr (Or.inl ⟨⟨by assumption, by assumption⟩, by assumption, rfl, rfl⟩))
        | exact Or.inr (Or.inr (Or.inr ⟨⟨by assumption, by assumption⟩, by assumption, rfl, hK.ofW hS_43 hW_43, same_kw hS_43⟩))
      · try simp only [b01_0, bz_0, Classical.not_not] at c_29
        refine rj_bipush (pc := 32) dX10_rank_32 (by decide +kernel) ?_
        refine r_ireturn (pc := 34) .int dX10_rank_34 rfl (by first | rfl | assumption) ?_
        first
        | exact Or.inl ⟨by assumption, rfl, rfl⟩
        | exact Or.inr (Or.inl ⟨by assumption, by assumption, rfl, rfl⟩)
        | exact Or.inr (Or.inr (Or.inl ⟨⟨by assumption, by assumption⟩, by assumption, rfl, rfl⟩))
        | exact Or.inr (Or.inr (Or.inr ⟨⟨by assumption, by assumption⟩, by assumption, rfl, hK.ofW hS_43 hW_43, same_kw hS_43⟩))
    · try simp only [b01_0, bz_0, Classical.not_not] at c_19
      refine rj_bipush (pc := 22) dX10_rank_22 (by decide +kernel) ?_
      refine r_ireturn (pc := 24) .int dX10_rank_24 rfl (by first | rfl | assumption) ?_
      first
      | exact Or.inl ⟨by assumption, rfl, rfl⟩
      | exact Or.inr (Or.inl ⟨by assumption, by assumption, rfl, rfl⟩)
      | exact Or.inr (Or.inr (Or.inl ⟨⟨by assumption, by assumption⟩, by assumption, rfl, rfl⟩))
      | exact Or.inr (Or.inr (Or.inr ⟨⟨by assumption, by assumption⟩, by assumption, rfl, hK.ofW hS_43 hW_43, same_kw hS_43⟩))
  · obtain rfl := tkAt_N e_5 q1_5
    refine r_astore_n (pc := 8) dX10_rank_8 (Nat.le_of_ble_eq_true rfl) (by first | rfl | exact isRefV_rf _) ?_
    dsimp only [lsSt, List.set, mLs, mEnt]
    refine r_aload_n (pc := 9) dX10_rank_9 rfl (by first | rfl | exact isRefV_rf _) ?_
    refine r_ifnonnull (pc := 10) (tgt := 15) dX10_rank_10 (by decide) (by first | rfl | exact isRefV_rf _) (fun a_10 c_10 => by cases c_10) (fun c_10 => ?_)
    refine rj_iconst (pc := 13) dX10_rank_13 ?_
    refine r_ireturn (pc := 14) .int dX10_rank_14 rfl (by first | rfl | assumption) ?_
    first
    | exact Or.inl ⟨by assumption, rfl, rfl⟩
    | exact Or.inr (Or.inl ⟨by assumption, by assumption, rfl, rfl⟩)
    | exact Or.inr (Or.inr (Or.inl ⟨⟨by assumption, by assumption⟩, by assumption, rfl, rfl⟩))
    | exact Or.inr (Or.inr (Or.inr ⟨⟨by assumption, by assumption⟩, by assumption, rfl, hK.ofW hS_43 hW_43, same_kw hS_43⟩))
end mg_d6

section mg_98
set_option maxHeartbeats 4000000 in
set_option maxRecDepth 100000 in
theorem cr_askToCancel {G : mG} {l : Launch} (d : Nat) {h : mH} {r : Nat} {b z : Int} {f : Nat → Int} {c : Nat → Int} {C : Nat → Nat → Int} {nm : Nat → Int64} {g : Nat → Option Nat} (hR : isR h r b z f c C nm g) (hc : ∀ q, InR (c q)) {i : Int} (hi : InR i) : RUNM G l (d + 1) mX3_askToCancel [.ref r, .int (J i)] h (fun v h' => (¬ (inW c 2 10 i ∧ c (489 + 9 * i.toNat) = 0) ∧ v = some (.int (J 106)) ∧ h' = h) ∨ ((inW c 2 10 i ∧ c (489 + 9 * i.toNat) = 0) ∧ v = some (.int (J 0)) ∧ isR h' r b z f (updI c (496 + 9 * i.toNat) 1) C nm g ∧ Same (rBlk r) h h')) := by
  refine RUNM.of (by decide +kernel) (Nat.le_of_ble_eq_true rfl) ?_
  have hW := hR.w
  refine r_aload_n (pc := 0) dX3_askToCancel_0 rfl (by first | rfl | exact isRefV_rf _) ?_
  refine r_getf (pc := 1) dX3_askToCancel_1 fX3_12 (by first | assumption | exact isI.gx (by assumption) | exact isI.gc (by assumption) | exact isW.gx (by assumption) | exact isW.gF (by assumption) | exact isW.gT (by assumption) (by omega) | exact isW.gS (by assumption) (by omega) | exact isW.gK (by assumption) (by omega) | exact isW.g1 (by assumption) | exact isW.g2 (by assumption) | exact isW.g3 (by assumption) | exact isI.gx (isW.i0 (by assumption)) | exact isI.gc (isW.i0 (by assumption)) | exact isI.gx (isW.i1 (by assumption)) | exact isI.gc (isW.i1 (by assumption)) | exact isI.gx (isW.i2 (by assumption)) | exact isI.gc (isW.i2 (by assumption)) | exact isI.gx (isW.i3 (by assumption)) | exact isI.gc (isW.i3 (by assumption)) | exact isI.gx (isW.i4 (by assumption)) | exact isI.gc (isW.i4 (by assumption)) | exact isI.gx (isW.i5 (by assumption)) | exact isI.gc (isW.i5 (by assumption)) | exact isR.gx (by assumption) | exact isRd.gx (by assumption) | exact isSp.gx (by assumption) | exact isI.gx (isR.i (by assumption)) | exact isI.gx (isRd.i (by assumption)) | exact isI.gc (isRd.i (by assumption)) | exact isI.gx (isSp.i (by assumption)) | exact isW.gx (isR.w (by assumption)) | exact isW.gF (isR.w (by assumption)) | fail "no such object") (by rfl) ?_
  refine r_iload_n (pc := 4) dX3_askToCancel_4 rfl ?_
  refine r_callV1 (pc := 5) dX3_askToCancel_5 qX9_taskAt kX3_57 vX9_taskAt (by first | assumption | exact isI.gx (by assumption) | exact isI.gc (by assumption) | exact isW.gx (by assumption) | exact isW.gF (by assumption) | exact isW.gT (by assumption) (by omega) | exact isW.gS (by assumption) (by omega) | exact isW.gK (by assumption) (by omega) | exact isW.g1 (by assumption) | exact isW.g2 (by assumption) | exact isW.g3 (by assumption) | exact isI.gx (isW.i0 (by assumption)) | exact isI.gc (isW.i0 (by assumption)) | exact isI.gx (isW.i1 (by assumption)) | exact isI.gc (isW.i1 (by assumption)) | exact isI.gx (isW.i2 (by assumption)) | exact isI.gc (isW.i2 (by assumption)) | exact isI.gx (isW.i3 (by assumption)) | exact isI.gc (isW.i3 (by assumption)) | exact isI.gx (isW.i4 (by assumption)) | exact isI.gc (isW.i4 (by assumption)) | exact isI.gx (isW.i5 (by assumption)) | exact isI.gc (isW.i5 (by assumption)) | exact isR.gx (by assumption) | exact isRd.gx (by assumption) | exact isSp.gx (by assumption) | exact isI.gx (isR.i (by assumption)) | exact isI.gx (isRd.i (by assumption)) | exact isI.gc (isRd.i (by assumption)) | exact isI.gx (isSp.i (by assumption)) | exact isW.gx (isR.w (by assumption)) | exact isW.gF (isR.w (by assumption)) | fail "no such object") rfl rfl (Nat.le_of_ble_eq_true rfl) (cw_taskAt _ hR.w hc hi) (fun v_5 h_5 q_5 => ?_)
  obtain ⟨q1_5, rfl⟩ := q_5
  by_cases e_5 : inW c 2 10 i
  · obtain rfl := tkAt_P e_5 q1_5
    refine r_astore_n (pc := 8) dX3_askToCancel_8 (Nat.le_of_ble_eq_true rfl) (by first | rfl | exact isRefV_rf _) ?_
    dsimp only [lsSt, List.set, mLs, mEnt]
    refine r_aload_n (pc := 9) dX3_askToCancel_9 rfl (by first | rfl | exact isRefV_rf _) ?_
    refine r_ifnull (pc := 10) (tgt := 20) dX3_askToCancel_10 (by decide) (by first | rfl | exact isRefV_rf _) (fun c_10 => by cases c_10) (fun a_10 c_10 => ?_)
    refine r_aload_n (pc := 13) dX3_askToCancel_13 rfl (by first | rfl | exact isRefV_rf _) ?_
    refine r_getf (pc := 14) dX3_askToCancel_14 fX3_81 (by first | assumption | exact isI.gx (by assumption) | exact isI.gc (by assumption) | exact isW.gx (by assumption) | exact isW.gF (by assumption) | exact isW.gT (by assumption) (by omega) | exact isW.gS (by assumption) (by omega) | exact isW.gK (by assumption) (by omega) | exact isW.g1 (by assumption) | exact isW.g2 (by assumption) | exact isW.g3 (by assumption) | exact isI.gx (isW.i0 (by assumption)) | exact isI.gc (isW.i0 (by assumption)) | exact isI.gx (isW.i1 (by assumption)) | exact isI.gc (isW.i1 (by assumption)) | exact isI.gx (isW.i2 (by assumption)) | exact isI.gc (isW.i2 (by assumption)) | exact isI.gx (isW.i3 (by assumption)) | exact isI.gc (isW.i3 (by assumption)) | exact isI.gx (isW.i4 (by assumption)) | exact isI.gc (isW.i4 (by assumption)) | exact isI.gx (isW.i5 (by assumption)) | exact isI.gc (isW.i5 (by assumption)) | exact isR.gx (by assumption) | exact isRd.gx (by assumption) | exact isSp.gx (by assumption) | exact isI.gx (isR.i (by assumption)) | exact isI.gx (isRd.i (by assumption)) | exact isI.gc (isRd.i (by assumption)) | exact isI.gx (isSp.i (by assumption)) | exact isW.gx (isR.w (by assumption)) | exact isW.gF (isR.w (by assumption)) | fail "no such object") (by rfl) ?_
    refine rj_if_eq (pc := 17) (tgt := 23) dX3_askToCancel_17 (by decide) (by first | exact b01_r | exact bz_r | omega | (constructor <;> omega) | apply_assumption | (apply atF_r; assumption) | fail "no range") (fun c_17 => ?_) (fun c_17 => ?_)
    · try simp only [b01_0, bz_0, Classical.not_not] at c_17
      refine r_aload_n (pc := 23) dX3_askToCancel_23 rfl (by first | rfl | exact isRefV_rf _) ?_
      refine rj_iconst (pc := 24) dX3_askToCancel_24 ?_
      refine rc_putK10 (pc := 25) dX3_askToCancel_25 fX3_70 (by assumption) (by omega) (by first | exact nar_J0 | exact nar_J1 | exact nar_b01 | assumption) (by first | exact fit_J0 | exact fit_J1 | assumption) (fun h_25 hW_25 hS_25 => ?_)
      refine rj_iconst (pc := 28) dX3_askToCancel_28 ?_
      refine r_ireturn (pc := 29) .int dX3_askToCancel_29 rfl (by first | rfl | assumption) ?_
      have hR_25 := hR.ofWr hS_25 hW_25
      exact Or.inr ⟨⟨by assumption, c_17⟩, rfl, hR_25.1, hR_25.2⟩
    · try simp only [b01_0, bz_0, Classical.not_not] at c_17
      refine rj_bipush (pc := 20) dX3_askToCancel_20 (by decide +kernel) ?_
      refine r_ireturn (pc := 22) .int dX3_askToCancel_22 rfl (by first | rfl | assumption) ?_
      first | exact Or.inl ⟨fun g => absurd g.1 (by assumption), rfl, rfl⟩ | exact Or.inl ⟨fun g => absurd g.2 (by assumption), rfl, rfl⟩
  · obtain rfl := tkAt_N e_5 q1_5
    refine r_astore_n (pc := 8) dX3_askToCancel_8 (Nat.le_of_ble_eq_true rfl) (by first | rfl | exact isRefV_rf _) ?_
    dsimp only [lsSt, List.set, mLs, mEnt]
    refine r_aload_n (pc := 9) dX3_askToCancel_9 rfl (by first | rfl | exact isRefV_rf _) ?_
    refine r_ifnull (pc := 10) (tgt := 20) dX3_askToCancel_10 (by decide) (by first | rfl | exact isRefV_rf _) (fun c_10 => ?_) (fun a_10 c_10 => by cases c_10)
    refine rj_bipush (pc := 20) dX3_askToCancel_20 (by decide +kernel) ?_
    refine r_ireturn (pc := 22) .int dX3_askToCancel_22 rfl (by first | rfl | assumption) ?_
    first | exact Or.inl ⟨fun g => absurd g.1 (by assumption), rfl, rfl⟩ | exact Or.inl ⟨fun g => absurd g.2 (by assumption), rfl, rfl⟩
end mg_98

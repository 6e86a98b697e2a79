section mg_89
set_option maxHeartbeats 4000000 in
set_option maxRecDepth 100000 in
theorem cq_ownFault {G : mG} {l : Launch} (d : Nat) {h : mH} {w : Nat} {c : Nat → Int} {C : Nat → Nat → Int} {nm : Nat → Int64} {g : Nat → Option Nat} (hW : isW h w c C nm g) (hc : ∀ q, InR (c q)) {i : Int} (hi : InR i) : RUNM G l (d + 1) mX9_ownFault [.ref w, .int (J i)] h (fun v h' => v = some (.int (J (ofF c i))) ∧ h' = h) := by
  refine RUNM.of (by decide +kernel) (Nat.le_of_ble_eq_true rfl) ?_
  refine r_aload_n (pc := 0) dX9_ownFault_0 rfl (by first | rfl | exact isRefV_rf _) ?_
  refine r_iload_n (pc := 1) dX9_ownFault_1 rfl ?_
  refine r_callV1 (pc := 2) dX9_ownFault_2 qX9_taskAt kX9_128 vX9_taskAt (by first | assumption | exact isI.gx (by assumption) | exact isI.gc (by assumption) | exact isW.gx (by assumption) | exact isW.gF (by assumption) | exact isW.gT (by assumption) (by omega) | exact isW.gS (by assumption) (by omega) | exact isW.gK (by assumption) (by omega) | exact isW.g1 (by assumption) | exact isW.g2 (by assumption) | exact isW.g3 (by assumption) | exact isI.gx (isW.i0 (by assumption)) | exact isI.gc (isW.i0 (by assumption)) | exact isI.gx (isW.i1 (by assumption)) | exact isI.gc (isW.i1 (by assumption)) | exact isI.gx (isW.i2 (by assumption)) | exact isI.gc (isW.i2 (by assumption)) | exact isI.gx (isW.i3 (by assumption)) | exact isI.gc (isW.i3 (by assumption)) | exact isI.gx (isW.i4 (by assumption)) | exact isI.gc (isW.i4 (by assumption)) | exact isI.gx (isW.i5 (by assumption)) | exact isI.gc (isW.i5 (by assumption)) | exact isR.gx (by assumption) | exact isRd.gx (by assumption) | exact isSp.gx (by assumption) | exact isI.gx (isR.i (by assumption)) | exact isI.gx (isRd.i (by assumption)) | exact isI.gc (isRd.i (by assumption)) | exact isI.gx (isSp.i (by assumption)) | exact isW.gx (isR.w (by assumption)) | exact isW.gF (isR.w (by assumption)) | fail "no such object") rfl rfl (Nat.le_of_ble_eq_true rfl) (cw_taskAt _ hW hc hi) (fun v_2 h_2 q_2 => ?_)
  obtain ⟨q1_2, rfl⟩ := q_2
  by_cases e_2 : inW c 2 10 i
  · obtain rfl := tkAt_P e_2 q1_2
    refine r_astore_n (pc := 5) dX9_ownFault_5 (Nat.le_of_ble_eq_true rfl) (by first | rfl | exact isRefV_rf _) ?_
    dsimp only [lsSt, List.set, mLs, mEnt]
    refine r_aload_n (pc := 6) dX9_ownFault_6 rfl (by first | rfl | exact isRefV_rf _) ?_
    refine r_ifnonnull (pc := 7) (tgt := 14) dX9_ownFault_7 (by decide) (by first | rfl | exact isRefV_rf _) (fun a_7 c_7 => ?_) (fun c_7 => by cases c_7)
    refine r_aload_n (pc := 14) dX9_ownFault_14 rfl (by first | rfl | exact isRefV_rf _) ?_
    refine r_getf (pc := 15) dX9_ownFault_15 fX9_194 (by first | assumption | exact isI.gx (by assumption) | exact isI.gc (by assumption) | exact isW.gx (by assumption) | exact isW.gF (by assumption) | exact isW.gT (by assumption) (by omega) | exact isW.gS (by assumption) (by omega) | exact isW.gK (by assumption) (by omega) | exact isW.g1 (by assumption) | exact isW.g2 (by assumption) | exact isW.g3 (by assumption) | exact isI.gx (isW.i0 (by assumption)) | exact isI.gc (isW.i0 (by assumption)) | exact isI.gx (isW.i1 (by assumption)) | exact isI.gc (isW.i1 (by assumption)) | exact isI.gx (isW.i2 (by assumption)) | exact isI.gc (isW.i2 (by assumption)) | exact isI.gx (isW.i3 (by assumption)) | exact isI.gc (isW.i3 (by assumption)) | exact isI.gx (isW.i4 (by assumption)) | exact isI.gc (isW.i4 (by assumption)) | exact isI.gx (isW.i5 (by assumption)) | exact isI.gc (isW.i5 (by assumption)) | exact isR.gx (by assumption) | exact isRd.gx (by assumption) | exact isSp.gx (by assumption) | exact isI.gx (isR.i (by assumption)) | exact isI.gx (isRd.i (by assumption)) | exact isI.gc (isRd.i (by assumption)) | exact isI.gx (isSp.i (by assumption)) | exact isW.gx (isR.w (by assumption)) | exact isW.gF (isR.w (by assumption)) | fail "no such object") (by rfl) ?_
    refine r_ireturn (pc := 18) .int dX9_ownFault_18 rfl (by first | rfl | assumption) ?_
    first | exact ⟨by unfold ofF; rw [if_pos (by assumption)], rfl⟩ | exact ⟨by unfold ofF; rw [if_neg (by assumption)], rfl⟩
  · obtain rfl := tkAt_N e_2 q1_2
    refine r_astore_n (pc := 5) dX9_ownFault_5 (Nat.le_of_ble_eq_true rfl) (by first | rfl | exact isRefV_rf _) ?_
    dsimp only [lsSt, List.set, mLs, mEnt]
    refine r_aload_n (pc := 6) dX9_ownFault_6 rfl (by first | rfl | exact isRefV_rf _) ?_
    refine r_ifnonnull (pc := 7) (tgt := 14) dX9_ownFault_7 (by decide) (by first | rfl | exact isRefV_rf _) (fun a_7 c_7 => by cases c_7) (fun c_7 => ?_)
    refine rj_iconst (pc := 10) dX9_ownFault_10 ?_
    refine r_goto (pc := 11) (tgt := 18) dX9_ownFault_11 (by decide) ?_
    refine r_ireturn (pc := 18) .int dX9_ownFault_18 rfl (by first | rfl | assumption) ?_
    first | exact ⟨by unfold ofF; rw [if_pos (by assumption)], rfl⟩ | exact ⟨by unfold ofF; rw [if_neg (by assumption)], rfl⟩
end mg_89

section mg_52
set_option maxHeartbeats 4000000 in
set_option maxRecDepth 100000 in
theorem cw_ownerOf {G : mG} {l : Launch} (d : Nat) {h : mH} {w : Nat} {c : Nat → Int} {C : Nat → Nat → Int} {nm : Nat → Int64} {g : Nat → Option Nat} (hW : isW h w c C nm g) (hc : ∀ q, InR (c q)) {i : Int} (hi : InR i) : RUNM G l (d + 1) mX9_ownerOf [.ref w, .int (J i)] h (fun v h' => v = some (.int (J (ownF c i))) ∧ h' = h) := by
  refine RUNM.of (by decide +kernel) (Nat.le_of_ble_eq_true rfl) ?_
  have r0 := hc 0
  have r1 := hc 1
  refine r_iload_n (pc := 0) dX9_ownerOf_0 rfl ?_
  refine rj_bipush (pc := 1) dX9_ownerOf_1 (by decide +kernel) ?_
  refine rj_icmp_lt (pc := 3) (tgt := 28) dX9_ownerOf_3 (by decide) (by first | exact b01_r | exact bz_r | omega | (constructor <;> omega) | apply_assumption | (apply atF_r; assumption) | fail "no range") (by first | exact b01_r | exact bz_r | omega | (constructor <;> omega) | apply_assumption | (apply atF_r; assumption) | fail "no range") (fun c_3 => ?_) (fun c_3 => ?_)
  · refine r_aload_n (pc := 28) dX9_ownerOf_28 rfl (by first | rfl | exact isRefV_rf _) ?_
    refine r_iload_n (pc := 29) dX9_ownerOf_29 rfl ?_
    refine r_callV1 (pc := 30) dX9_ownerOf_30 qX9_thingAt kX9_96 vX9_thingAt (by first | assumption | exact isI.gx (by assumption) | exact isI.gc (by assumption) | exact isW.gx (by assumption) | exact isW.gF (by assumption) | exact isW.gT (by assumption) (by omega) | exact isW.gS (by assumption) (by omega) | exact isW.gK (by assumption) (by omega) | exact isW.g1 (by assumption) | exact isW.g2 (by assumption) | exact isW.g3 (by assumption) | exact isI.gx (isW.i0 (by assumption)) | exact isI.gc (isW.i0 (by assumption)) | exact isI.gx (isW.i1 (by assumption)) | exact isI.gc (isW.i1 (by assumption)) | exact isI.gx (isW.i2 (by assumption)) | exact isI.gc (isW.i2 (by assumption)) | exact isI.gx (isW.i3 (by assumption)) | exact isI.gc (isW.i3 (by assumption)) | exact isI.gx (isW.i4 (by assumption)) | exact isI.gc (isW.i4 (by assumption)) | exact isI.gx (isW.i5 (by assumption)) | exact isI.gc (isW.i5 (by assumption)) | exact isR.gx (by assumption) | exact isRd.gx (by assumption) | exact isSp.gx (by assumption) | exact isI.gx (isR.i (by assumption)) | exact isI.gx (isRd.i (by assumption)) | exact isI.gc (isRd.i (by assumption)) | exact isI.gx (isSp.i (by assumption)) | exact isW.gx (isR.w (by assumption)) | exact isW.gF (isR.w (by assumption)) | fail "no such object") rfl rfl (Nat.le_of_ble_eq_true rfl) (cw_thingAt _ hW hc hi) (fun v_30 h_30 q_30 => ?_)
    obtain ⟨q1_30, rfl⟩ := q_30
    by_cases e_30 : inW c 0 90 i
    · obtain rfl := thAt_P e_30 q1_30
      refine r_astore_n (pc := 33) dX9_ownerOf_33 (Nat.le_of_ble_eq_true rfl) (by first | rfl | exact isRefV_rf _) ?_
      dsimp only [lsSt, List.set, mLs, mEnt]
      refine r_aload_n (pc := 34) dX9_ownerOf_34 rfl (by first | rfl | exact isRefV_rf _) ?_
      refine r_ifnonnull (pc := 35) (tgt := 42) dX9_ownerOf_35 (by decide) (by first | rfl | exact isRefV_rf _) (fun a_35 c_35 => ?_) (fun c_35 => by cases c_35)
      refine r_aload_n (pc := 42) dX9_ownerOf_42 rfl (by first | rfl | exact isRefV_rf _) ?_
      refine r_getf (pc := 43) dX9_ownerOf_43 fX9_117 (by first | assumption | exact isI.gx (by assumption) | exact isI.gc (by assumption) | exact isW.gx (by assumption) | exact isW.gF (by assumption) | exact isW.gT (by assumption) (by omega) | exact isW.gS (by assumption) (by omega) | exact isW.gK (by assumption) (by omega) | exact isW.g1 (by assumption) | exact isW.g2 (by assumption) | exact isW.g3 (by assumption) | exact isI.gx (isW.i0 (by assumption)) | exact isI.gc (isW.i0 (by assumption)) | exact isI.gx (isW.i1 (by assumption)) | exact isI.gc (isW.i1 (by assumption)) | exact isI.gx (isW.i2 (by assumption)) | exact isI.gc (isW.i2 (by assumption)) | exact isI.gx (isW.i3 (by assumption)) | exact isI.gc (isW.i3 (by assumption)) | exact isI.gx (isW.i4 (by assumption)) | exact isI.gc (isW.i4 (by assumption)) | exact isI.gx (isW.i5 (by assumption)) | exact isI.gc (isW.i5 (by assumption)) | exact isR.gx (by assumption) | exact isRd.gx (by assumption) | exact isSp.gx (by assumption) | exact isI.gx (isR.i (by assumption)) | exact isI.gx (isRd.i (by assumption)) | exact isI.gc (isRd.i (by assumption)) | exact isI.gx (isSp.i (by assumption)) | exact isW.gx (isR.w (by assumption)) | exact isW.gF (isR.w (by assumption)) | fail "no such object") (by rfl) ?_
      refine r_ireturn (pc := 46) .int dX9_ownerOf_46 rfl (by first | rfl | assumption) ?_
      first
      | exact ⟨by unfold ownF; rw [if_pos (by omega), if_pos (by omega)], rfl⟩
      | exact ⟨by unfold ownF; rw [if_pos (by omega), if_neg (by omega)], rfl⟩
      | exact ⟨by unfold ownF; rw [if_neg (by omega), if_pos (by omega)], rfl⟩
      | exact ⟨by unfold ownF; rw [if_neg (by omega), if_neg (by omega)], rfl⟩
    · obtain rfl := thAt_N e_30 q1_30
      refine r_astore_n (pc := 33) dX9_ownerOf_33 (Nat.le_of_ble_eq_true rfl) (by first | rfl | exact isRefV_rf _) ?_
      dsimp only [lsSt, List.set, mLs, mEnt]
      refine r_aload_n (pc := 34) dX9_ownerOf_34 rfl (by first | rfl | exact isRefV_rf _) ?_
      refine r_ifnonnull (pc := 35) (tgt := 42) dX9_ownerOf_35 (by decide) (by first | rfl | exact isRefV_rf _) (fun a_35 c_35 => by cases c_35) (fun c_35 => ?_)
      refine rj_iconst (pc := 38) dX9_ownerOf_38 ?_
      refine r_goto (pc := 39) (tgt := 46) dX9_ownerOf_39 (by decide) ?_
      refine r_ireturn (pc := 46) .int dX9_ownerOf_46 rfl (by first | rfl | assumption) ?_
      first
      | exact ⟨by unfold ownF; rw [if_pos (by omega), if_pos (by omega)], rfl⟩
      | exact ⟨by unfold ownF; rw [if_pos (by omega), if_neg (by omega)], rfl⟩
      | exact ⟨by unfold ownF; rw [if_neg (by omega), if_pos (by omega)], rfl⟩
      | exact ⟨by unfold ownF; rw [if_neg (by omega), if_neg (by omega)], rfl⟩
  · refine r_aload_n (pc := 6) dX9_ownerOf_6 rfl (by first | rfl | exact isRefV_rf _) ?_
    refine r_iload_n (pc := 7) dX9_ownerOf_7 rfl ?_
    refine rj_bipush (pc := 8) dX9_ownerOf_8 (by decide +kernel) ?_
    refine rj_isub (pc := 10) dX9_ownerOf_10 ?_
    refine r_callV1 (pc := 11) dX9_ownerOf_11 qX9_scopeAt kX9_61 vX9_scopeAt (by first | assumption | exact isI.gx (by assumption) | exact isI.gc (by assumption) | exact isW.gx (by assumption) | exact isW.gF (by assumption) | exact isW.gT (by assumption) (by omega) | exact isW.gS (by assumption) (by omega) | exact isW.gK (by assumption) (by omega) | exact isW.g1 (by assumption) | exact isW.g2 (by assumption) | exact isW.g3 (by assumption) | exact isI.gx (isW.i0 (by assumption)) | exact isI.gc (isW.i0 (by assumption)) | exact isI.gx (isW.i1 (by assumption)) | exact isI.gc (isW.i1 (by assumption)) | exact isI.gx (isW.i2 (by assumption)) | exact isI.gc (isW.i2 (by assumption)) | exact isI.gx (isW.i3 (by assumption)) | exact isI.gc (isW.i3 (by assumption)) | exact isI.gx (isW.i4 (by assumption)) | exact isI.gc (isW.i4 (by assumption)) | exact isI.gx (isW.i5 (by assumption)) | exact isI.gc (isW.i5 (by assumption)) | exact isR.gx (by assumption) | exact isRd.gx (by assumption) | exact isSp.gx (by assumption) | exact isI.gx (isR.i (by assumption)) | exact isI.gx (isRd.i (by assumption)) | exact isI.gc (isRd.i (by assumption)) | exact isI.gx (isSp.i (by assumption)) | exact isW.gx (isR.w (by assumption)) | exact isW.gF (isR.w (by assumption)) | fail "no such object") rfl rfl (Nat.le_of_ble_eq_true rfl) (cw_scopeAt _ hW hc ⟨by omega, by omega⟩) (fun v_11 h_11 q_11 => ?_)
    obtain ⟨q1_11, rfl⟩ := q_11
    by_cases e_11 : inW c 1 60 (i - 100)
    · obtain rfl := scAt_P e_11 q1_11
      refine r_astore_n (pc := 14) dX9_ownerOf_14 (Nat.le_of_ble_eq_true rfl) (by first | rfl | exact isRefV_rf _) ?_
      dsimp only [lsSt, List.set, mLs, mEnt]
      refine r_aload_n (pc := 15) dX9_ownerOf_15 rfl (by first | rfl | exact isRefV_rf _) ?_
      refine r_ifnonnull (pc := 16) (tgt := 23) dX9_ownerOf_16 (by decide) (by first | rfl | exact isRefV_rf _) (fun a_16 c_16 => ?_) (fun c_16 => by cases c_16)
      refine r_aload_n (pc := 23) dX9_ownerOf_23 rfl (by first | rfl | exact isRefV_rf _) ?_
      refine r_getf (pc := 24) dX9_ownerOf_24 fX9_65 (by first | assumption | exact isI.gx (by assumption) | exact isI.gc (by assumption) | exact isW.gx (by assumption) | exact isW.gF (by assumption) | exact isW.gT (by assumption) (by omega) | exact isW.gS (by assumption) (by omega) | exact isW.gK (by assumption) (by omega) | exact isW.g1 (by assumption) | exact isW.g2 (by assumption) | exact isW.g3 (by assumption) | exact isI.gx (isW.i0 (by assumption)) | exact isI.gc (isW.i0 (by assumption)) | exact isI.gx (isW.i1 (by assumption)) | exact isI.gc (isW.i1 (by assumption)) | exact isI.gx (isW.i2 (by assumption)) | exact isI.gc (isW.i2 (by assumption)) | exact isI.gx (isW.i3 (by assumption)) | exact isI.gc (isW.i3 (by assumption)) | exact isI.gx (isW.i4 (by assumption)) | exact isI.gc (isW.i4 (by assumption)) | exact isI.gx (isW.i5 (by assumption)) | exact isI.gc (isW.i5 (by assumption)) | exact isR.gx (by assumption) | exact isRd.gx (by assumption) | exact isSp.gx (by assumption) | exact isI.gx (isR.i (by assumption)) | exact isI.gx (isRd.i (by assumption)) | exact isI.gc (isRd.i (by assumption)) | exact isI.gx (isSp.i (by assumption)) | exact isW.gx (isR.w (by assumption)) | exact isW.gF (isR.w (by assumption)) | fail "no such object") (by rfl) ?_
      refine r_ireturn (pc := 27) .int dX9_ownerOf_27 rfl (by first | rfl | assumption) ?_
      first
      | exact ⟨by unfold ownF; rw [if_pos (by omega), if_pos (by omega)], rfl⟩
      | exact ⟨by unfold ownF; rw [if_pos (by omega), if_neg (by omega)], rfl⟩
      | exact ⟨by unfold ownF; rw [if_neg (by omega), if_pos (by omega)], rfl⟩
      | exact ⟨by unfold ownF; rw [if_neg (by omega), if_neg (by omega)], rfl⟩
    · obtain rfl := scAt_N e_11 q1_11
      refine r_astore_n (pc := 14) dX9_ownerOf_14 (Nat.le_of_ble_eq_true rfl) (by first | rfl | exact isRefV_rf _) ?_
      dsimp only [lsSt, List.set, mLs, mEnt]
      refine r_aload_n (pc := 15) dX9_ownerOf_15 rfl (by first | rfl | exact isRefV_rf _) ?_
      refine r_ifnonnull (pc := 16) (tgt := 23) dX9_ownerOf_16 (by decide) (by first | rfl | exact isRefV_rf _) (fun a_16 c_16 => by cases c_16) (fun c_16 => ?_)
      refine rj_iconst (pc := 19) dX9_ownerOf_19 ?_
      refine r_goto (pc := 20) (tgt := 27) dX9_ownerOf_20 (by decide) ?_
      refine r_ireturn (pc := 27) .int dX9_ownerOf_27 rfl (by first | rfl | assumption) ?_
      first
      | exact ⟨by unfold ownF; rw [if_pos (by omega), if_pos (by omega)], rfl⟩
      | exact ⟨by unfold ownF; rw [if_pos (by omega), if_neg (by omega)], rfl⟩
      | exact ⟨by unfold ownF; rw [if_neg (by omega), if_pos (by omega)], rfl⟩
      | exact ⟨by unfold ownF; rw [if_neg (by omega), if_neg (by omega)], rfl⟩
end mg_52

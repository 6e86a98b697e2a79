section mg_52
set_option maxHeartbeats 4000000 in
set_option maxRecDepth 100000 in
theorem cw_isHeld {G : mG} {l : Launch} (d : Nat) {h : mH} {w : Nat} {c : Nat → Int} {C : Nat → Nat → Int} {nm : Nat → Int64} {g : Nat → Option Nat} (hW : isW h w c C nm g) (hc : ∀ q, InR (c q)) {i : Int} (hi : InR i) : RUNM G l (d + 1) mX9_isHeld [.ref w, .int (J i)] h (fun v h' => v = some (.int (J (b01 (inW c 0 90 i ∧ c (32 + 3 * i.toNat) = 0)))) ∧ h' = h) := by
  refine RUNM.of (by decide +kernel) (Nat.le_of_ble_eq_true rfl) ?_
  have r0 := hc 0
  refine r_aload_n (pc := 0) dX9_isHeld_0 rfl (by first | rfl | exact isRefV_rf _) ?_
  refine r_iload_n (pc := 1) dX9_isHeld_1 rfl ?_
  refine r_callV1 (pc := 2) dX9_isHeld_2 qX9_thingAt kX9_96 vX9_thingAt (by first | assumption | exact isI.gx (by assumption) | exact isI.gc (by assumption) | exact isW.gx (by assumption) | exact isW.gF (by assumption) | exact isW.gT (by assumption) (by omega) | exact isW.gS (by assumption) (by omega) | exact isW.gK (by assumption) (by omega) | exact isW.g1 (by assumption) | exact isW.g2 (by assumption) | exact isW.g3 (by assumption) | exact isI.gx (isW.i0 (by assumption)) | exact isI.gc (isW.i0 (by assumption)) | exact isI.gx (isW.i1 (by assumption)) | exact isI.gc (isW.i1 (by assumption)) | exact isI.gx (isW.i2 (by assumption)) | exact isI.gc (isW.i2 (by assumption)) | exact isI.gx (isW.i3 (by assumption)) | exact isI.gc (isW.i3 (by assumption)) | exact isI.gx (isW.i4 (by assumption)) | exact isI.gc (isW.i4 (by assumption)) | exact isI.gx (isW.i5 (by assumption)) | exact isI.gc (isW.i5 (by assumption)) | exact isR.gx (by assumption) | exact isRd.gx (by assumption) | exact isSp.gx (by assumption) | exact isI.gx (isR.i (by assumption)) | exact isI.gx (isRd.i (by assumption)) | exact isI.gc (isRd.i (by assumption)) | exact isI.gx (isSp.i (by assumption)) | exact isW.gx (isR.w (by assumption)) | exact isW.gF (isR.w (by assumption)) | fail "no such object") rfl rfl (Nat.le_of_ble_eq_true rfl) (cw_thingAt _ hW hc hi) (fun v_2 h_2 q_2 => ?_)
  obtain ⟨q1_2, rfl⟩ := q_2
  by_cases e_2 : inW c 0 90 i
  · obtain rfl := thAt_P e_2 q1_2
    refine r_astore_n (pc := 5) dX9_isHeld_5 (Nat.le_of_ble_eq_true rfl) (by first | rfl | exact isRefV_rf _) ?_
    dsimp only [lsSt, List.set, mLs, mEnt]
    refine r_aload_n (pc := 6) dX9_isHeld_6 rfl (by first | rfl | exact isRefV_rf _) ?_
    refine r_ifnull (pc := 7) (tgt := 21) dX9_isHeld_7 (by decide) (by first | rfl | exact isRefV_rf _) (fun c_7 => by cases c_7) (fun a_7 c_7 => ?_)
    refine r_aload_n (pc := 10) dX9_isHeld_10 rfl (by first | rfl | exact isRefV_rf _) ?_
    refine r_getf (pc := 11) dX9_isHeld_11 fX9_114 (by first | assumption | exact isI.gx (by assumption) | exact isI.gc (by assumption) | exact isW.gx (by assumption) | exact isW.gF (by assumption) | exact isW.gT (by assumption) (by omega) | exact isW.gS (by assumption) (by omega) | exact isW.gK (by assumption) (by omega) | exact isW.g1 (by assumption) | exact isW.g2 (by assumption) | exact isW.g3 (by assumption) | exact isI.gx (isW.i0 (by assumption)) | exact isI.gc (isW.i0 (by assumption)) | exact isI.gx (isW.i1 (by assumption)) | exact isI.gc (isW.i1 (by assumption)) | exact isI.gx (isW.i2 (by assumption)) | exact isI.gc (isW.i2 (by assumption)) | exact isI.gx (isW.i3 (by assumption)) | exact isI.gc (isW.i3 (by assumption)) | exact isI.gx (isW.i4 (by assumption)) | exact isI.gc (isW.i4 (by assumption)) | exact isI.gx (isW.i5 (by assumption)) | exact isI.gc (isW.i5 (by assumption)) | exact isR.gx (by assumption) | exact isRd.gx (by assumption) | exact isSp.gx (by assumption) | exact isI.gx (isR.i (by assumption)) | exact isI.gx (isRd.i (by assumption)) | exact isI.gc (isRd.i (by assumption)) | exact isI.gx (isSp.i (by assumption)) | exact isW.gx (isR.w (by assumption)) | exact isW.gF (isR.w (by assumption)) | fail "no such object") (by rfl) ?_
    refine rj_if_ne (pc := 14) (tgt := 21) dX9_isHeld_14 (by decide) (by first | exact b01_r | exact bz_r | omega | (constructor <;> omega) | apply_assumption | (apply atF_r; assumption) | fail "no range") (fun c_14 => ?_) (fun c_14 => ?_)
    · try simp only [b01_0, bz_0, Classical.not_not] at c_14
      refine rj_iconst (pc := 21) dX9_isHeld_21 ?_
      refine r_ireturn (pc := 22) .boolean dX9_isHeld_22 rfl (by first | exact nar_J0 | exact nar_J1 | exact nar_b01 | exact nar_bz) ?_
      first
      | exact ⟨rfl, rfl⟩
      | exact ⟨vf (by omega), rfl⟩
      | exact ⟨vt (by omega), rfl⟩
    · try simp only [b01_0, bz_0, Classical.not_not] at c_14
      refine rj_iconst (pc := 17) dX9_isHeld_17 ?_
      refine r_goto (pc := 18) (tgt := 22) dX9_isHeld_18 (by decide) ?_
      refine r_ireturn (pc := 22) .boolean dX9_isHeld_22 rfl (by first | exact nar_J0 | exact nar_J1 | exact nar_b01 | exact nar_bz) ?_
      first
      | exact ⟨rfl, rfl⟩
      | exact ⟨vf (by omega), rfl⟩
      | exact ⟨vt (by omega), rfl⟩
  · obtain rfl := thAt_N e_2 q1_2
    refine r_astore_n (pc := 5) dX9_isHeld_5 (Nat.le_of_ble_eq_true rfl) (by first | rfl | exact isRefV_rf _) ?_
    dsimp only [lsSt, List.set, mLs, mEnt]
    refine r_aload_n (pc := 6) dX9_isHeld_6 rfl (by first | rfl | exact isRefV_rf _) ?_
    refine r_ifnull (pc := 7) (tgt := 21) dX9_isHeld_7 (by decide) (by first | rfl | exact isRefV_rf _) (fun c_7 => ?_) (fun a_7 c_7 => by cases c_7)
    refine rj_iconst (pc := 21) dX9_isHeld_21 ?_
    refine r_ireturn (pc := 22) .boolean dX9_isHeld_22 rfl (by first | exact nar_J0 | exact nar_J1 | exact nar_b01 | exact nar_bz) ?_
    first
    | exact ⟨rfl, rfl⟩
    | exact ⟨vf (by omega), rfl⟩
    | exact ⟨vt (by omega), rfl⟩
end mg_52

section mg_9i
set_option maxHeartbeats 4000000 in
set_option maxRecDepth 100000 in
theorem cr_tickOnce {G : mG} {l : Launch} (d : Nat) {h : mH} {r : Nat} {n : Int} (ho : isO3 h r) {R1 R2 : mH → Prop} (hB : RUNM G l d mX3_beginTurn [.ref r] h (fun v h' => v = some (.int (J n)) ∧ R1 h')) (h1 : ∀ h', R1 h' → isO3 h' r) (hK : ∀ h', R1 h' → WK G l d r h' R2) : RUNM G l (d + 1) mX3_tickOnce [.ref r] h (fun v h' => v = some (.int (J n)) ∧ R2 h') := by
  refine RUNM.of (by decide +kernel) (Nat.le_of_ble_eq_true rfl) ?_
  obtain ⟨fs, gx⟩ := ho
  refine r_aload_n (pc := 0) dX3_tickOnce_0 rfl (by first | rfl | exact isRefV_rf _) ?_
  refine r_callV0 (pc := 1) dX3_tickOnce_1 qX3_beginTurn kX3_50 vX3_beginTurn (by first | assumption | exact isI.gx (by assumption) | exact isI.gc (by assumption) | exact isW.gx (by assumption) | exact isW.gF (by assumption) | exact isW.gT (by assumption) (by omega) | exact isW.gS (by assumption) (by omega) | exact isW.gK (by assumption) (by omega) | exact isW.g1 (by assumption) | exact isW.g2 (by assumption) | exact isW.g3 (by assumption) | exact isI.gx (isW.i0 (by assumption)) | exact isI.gc (isW.i0 (by assumption)) | exact isI.gx (isW.i1 (by assumption)) | exact isI.gc (isW.i1 (by assumption)) | exact isI.gx (isW.i2 (by assumption)) | exact isI.gc (isW.i2 (by assumption)) | exact isI.gx (isW.i3 (by assumption)) | exact isI.gc (isW.i3 (by assumption)) | exact isI.gx (isW.i4 (by assumption)) | exact isI.gc (isW.i4 (by assumption)) | exact isI.gx (isW.i5 (by assumption)) | exact isI.gc (isW.i5 (by assumption)) | exact isR.gx (by assumption) | exact isRd.gx (by assumption) | exact isSp.gx (by assumption) | exact isI.gx (isR.i (by assumption)) | exact isI.gx (isRd.i (by assumption)) | exact isI.gc (isRd.i (by assumption)) | exact isI.gx (isSp.i (by assumption)) | exact isW.gx (isR.w (by assumption)) | exact isW.gF (isR.w (by assumption)) | fail "no such object") rfl rfl (Nat.le_of_ble_eq_true rfl) (hB) (fun v_1 h_1 q_1 => ?_)
  obtain ⟨rfl, Q_1⟩ := q_1
  obtain ⟨fs1, gx1⟩ := h1 _ Q_1
  have y := hK _ Q_1
  unfold WK at y
  refine r_istore_n (pc := 4) dX3_tickOnce_4 (Nat.le_of_ble_eq_true rfl) ?_
  dsimp only [lsSt, List.set, mLs, mEnt]
  refine r_aload_n (pc := 5) dX3_tickOnce_5 rfl (by first | rfl | exact isRefV_rf _) ?_
  refine r_callV0 (pc := 6) dX3_tickOnce_6 qX3_work kX3_43 vX3_work (by first | assumption | exact isI.gx (by assumption) | exact isI.gc (by assumption) | exact isW.gx (by assumption) | exact isW.gF (by assumption) | exact isW.gT (by assumption) (by omega) | exact isW.gS (by assumption) (by omega) | exact isW.gK (by assumption) (by omega) | exact isW.g1 (by assumption) | exact isW.g2 (by assumption) | exact isW.g3 (by assumption) | exact isI.gx (isW.i0 (by assumption)) | exact isI.gc (isW.i0 (by assumption)) | exact isI.gx (isW.i1 (by assumption)) | exact isI.gc (isW.i1 (by assumption)) | exact isI.gx (isW.i2 (by assumption)) | exact isI.gc (isW.i2 (by assumption)) | exact isI.gx (isW.i3 (by assumption)) | exact isI.gc (isW.i3 (by assumption)) | exact isI.gx (isW.i4 (by assumption)) | exact isI.gc (isW.i4 (by assumption)) | exact isI.gx (isW.i5 (by assumption)) | exact isI.gc (isW.i5 (by assumption)) | exact isR.gx (by assumption) | exact isRd.gx (by assumption) | exact isSp.gx (by assumption) | exact isI.gx (isR.i (by assumption)) | exact isI.gx (isRd.i (by assumption)) | exact isI.gc (isRd.i (by assumption)) | exact isI.gx (isSp.i (by assumption)) | exact isW.gx (isR.w (by assumption)) | exact isW.gF (isR.w (by assumption)) | fail "no such object") rfl rfl (Nat.le_of_ble_eq_true rfl) (y) (fun v_6 h_6 q_6 => ?_)
  obtain ⟨rfl, Q_6⟩ := q_6
  refine r_iload_n (pc := 9) dX3_tickOnce_9 rfl ?_
  refine r_ireturn (pc := 10) .int dX3_tickOnce_10 rfl (by first | rfl | assumption) ?_
  exact ⟨rfl, Q_6⟩
end mg_9i

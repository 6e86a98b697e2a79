section mg_87
set_option maxHeartbeats 4000000 in
set_option maxRecDepth 100000 in
theorem cq_readyAhead {G : mG} {l : Launch} (d : Nat) {h : mH} {w : Nat} {c : Nat → Int} {C : Nat → Nat → Int} {nm : Nat → Int64} {g : Nat → Option Nat} (hW : isW h w c C nm g) (hc : ∀ q, InR (c q)) {K : Nat} (hK : c 2 = (K : Int)) (hcapK : K ≤ 10) {a : Nat} (ha : a < K) : RUNM G l (d + 2) mX9_readyAhead [.ref w, .int (J (a : Int))] h (fun v h' => v = some (.int (J (cnt (raB c a) K))) ∧ h' = h) := by
  refine RUNM.of (by decide +kernel) (Nat.le_of_ble_eq_true rfl) ?_
  refine r_aload_n (pc := 0) dX9_readyAhead_0 rfl (by first | rfl | exact isRefV_rf _) ?_
  refine r_iload_n (pc := 1) dX9_readyAhead_1 rfl ?_
  refine r_callV1 (pc := 2) dX9_readyAhead_2 qX9_taskAt kX9_128 vX9_taskAt (by first | assumption | exact isI.gx (by assumption) | exact isI.gc (by assumption) | exact isW.gx (by assumption) | exact isW.gF (by assumption) | exact isW.gT (by assumption) (by omega) | exact isW.gS (by assumption) (by omega) | exact isW.gK (by assumption) (by omega) | exact isW.g1 (by assumption) | exact isW.g2 (by assumption) | exact isW.g3 (by assumption) | exact isI.gx (isW.i0 (by assumption)) | exact isI.gc (isW.i0 (by assumption)) | exact isI.gx (isW.i1 (by assumption)) | exact isI.gc (isW.i1 (by assumption)) | exact isI.gx (isW.i2 (by assumption)) | exact isI.gc (isW.i2 (by assumption)) | exact isI.gx (isW.i3 (by assumption)) | exact isI.gc (isW.i3 (by assumption)) | exact isI.gx (isW.i4 (by assumption)) | exact isI.gc (isW.i4 (by assumption)) | exact isI.gx (isW.i5 (by assumption)) | exact isI.gc (isW.i5 (by assumption)) | exact isR.gx (by assumption) | exact isRd.gx (by assumption) | exact isSp.gx (by assumption) | exact isI.gx (isR.i (by assumption)) | exact isI.gx (isRd.i (by assumption)) | exact isI.gc (isRd.i (by assumption)) | exact isI.gx (isSp.i (by assumption)) | exact isW.gx (isR.w (by assumption)) | exact isW.gF (isR.w (by assumption)) | fail "no such object") rfl rfl (Nat.le_of_ble_eq_true rfl) (cw_taskAt _ hW hc (i := (a : Int)) ⟨by omega, by omega⟩) (fun v_2 h_2 q_2 => ?_)
  obtain ⟨q1_2, rfl⟩ := q_2
  · obtain rfl := tkAt_P (by omega) q1_2
    refine r_astore_n (pc := 5) dX9_readyAhead_5 (Nat.le_of_ble_eq_true rfl) (by first | rfl | exact isRefV_rf _) ?_
    dsimp only [lsSt, List.set, mLs, mEnt]
    refine rj_iconst (pc := 6) dX9_readyAhead_6 ?_
    refine r_istore_n (pc := 7) dX9_readyAhead_7 (Nat.le_of_ble_eq_true rfl) ?_
    dsimp only [lsSt, List.set, mLs, mEnt]
    refine rj_iconst (pc := 8) dX9_readyAhead_8 ?_
    refine r_istore (pc := 9) dX9_readyAhead_9 (Nat.le_of_ble_eq_true rfl) ?_
    dsimp only [lsSt, List.set, mLs, mEnt]
    exact L_readyAhead d hW hc hK hcapK ha K 0 _ (by omega)
end mg_87

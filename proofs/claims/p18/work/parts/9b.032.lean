section mg_9j
set_option maxHeartbeats 4000000 in
set_option maxRecDepth 100000 in
theorem cq_planned {G : mG} {l : Launch} (d : Nat) {h : mH} {w : Nat} {c : Nat → Int} {C : Nat → Nat → Int} {nm : Nat → Int64} {g : Nat → Option Nat} (hW : isW h w c C nm g) (hc : ∀ q, InR (c q)) {Z : Nat} (hZ : c 10 = (Z : Int)) (hcapZ : Z ≤ 150) (hC : ∀ q, InR (C 2 q)) (hO : oOk c) {s i : Int} (hs : 0 ≤ s ∧ s ≤ 59) (hi : InR i) : RUNM G l (d + 3) mX9_planned [.ref w, .int (J s), .int (J i)] h (fun v h' => v = some (.int (J (pcL c (C 2) Z s i 1000000 s ((Z : Int) - 1) 0))) ∧ h' = h) := by
  refine RUNM.of (by decide +kernel) (Nat.le_of_ble_eq_true rfl) ?_
  have r10 := hc 10
  refine rj_iconst (pc := 0) dX9_planned_0 ?_
  refine r_istore_n (pc := 1) dX9_planned_1 (Nat.le_of_ble_eq_true rfl) ?_
  dsimp only [lsSt, List.set, mLs, mEnt]
  refine r_iload_n (pc := 2) dX9_planned_2 rfl ?_
  refine r_istore (pc := 3) dX9_planned_3 (Nat.le_of_ble_eq_true rfl) ?_
  dsimp only [lsSt, List.set, mLs, mEnt]
  refine r_aload_n (pc := 5) dX9_planned_5 rfl (by first | rfl | exact isRefV_rf _) ?_
  refine r_getf (pc := 6) dX9_planned_6 fX9_41 (by first | assumption | exact isI.gx (by assumption) | exact isI.gc (by assumption) | exact isW.gx (by assumption) | exact isW.gF (by assumption) | exact isW.gT (by assumption) (by omega) | exact isW.gS (by assumption) (by omega) | exact isW.gK (by assumption) (by omega) | exact isW.g1 (by assumption) | exact isW.g2 (by assumption) | exact isW.g3 (by assumption) | exact isI.gx (isW.i0 (by assumption)) | exact isI.gc (isW.i0 (by assumption)) | exact isI.gx (isW.i1 (by assumption)) | exact isI.gc (isW.i1 (by assumption)) | exact isI.gx (isW.i2 (by assumption)) | exact isI.gc (isW.i2 (by assumption)) | exact isI.gx (isW.i3 (by assumption)) | exact isI.gc (isW.i3 (by assumption)) | exact isI.gx (isW.i4 (by assumption)) | exact isI.gc (isW.i4 (by assumption)) | exact isI.gx (isW.i5 (by assumption)) | exact isI.gc (isW.i5 (by assumption)) | exact isR.gx (by assumption) | exact isRd.gx (by assumption) | exact isSp.gx (by assumption) | exact isI.gx (isR.i (by assumption)) | exact isI.gx (isRd.i (by assumption)) | exact isI.gc (isRd.i (by assumption)) | exact isI.gx (isSp.i (by assumption)) | exact isW.gx (isR.w (by assumption)) | exact isW.gF (isR.w (by assumption)) | fail "no such object") (by rfl) ?_
  refine r_getf (pc := 9) dX9_planned_9 fX9_144 (by first | assumption | exact isI.gx (by assumption) | exact isI.gc (by assumption) | exact isW.gx (by assumption) | exact isW.gF (by assumption) | exact isW.gT (by assumption) (by omega) | exact isW.gS (by assumption) (by omega) | exact isW.gK (by assumption) (by omega) | exact isW.g1 (by assumption) | exact isW.g2 (by assumption) | exact isW.g3 (by assumption) | exact isI.gx (isW.i0 (by assumption)) | exact isI.gc (isW.i0 (by assumption)) | exact isI.gx (isW.i1 (by assumption)) | exact isI.gc (isW.i1 (by assumption)) | exact isI.gx (isW.i2 (by assumption)) | exact isI.gc (isW.i2 (by assumption)) | exact isI.gx (isW.i3 (by assumption)) | exact isI.gc (isW.i3 (by assumption)) | exact isI.gx (isW.i4 (by assumption)) | exact isI.gc (isW.i4 (by assumption)) | exact isI.gx (isW.i5 (by assumption)) | exact isI.gc (isW.i5 (by assumption)) | exact isR.gx (by assumption) | exact isRd.gx (by assumption) | exact isSp.gx (by assumption) | exact isI.gx (isR.i (by assumption)) | exact isI.gx (isRd.i (by assumption)) | exact isI.gc (isRd.i (by assumption)) | exact isI.gx (isSp.i (by assumption)) | exact isW.gx (isR.w (by assumption)) | exact isW.gF (isR.w (by assumption)) | fail "no such object") (by rfl) ?_
  rw [hZ]
  refine rj_iconst (pc := 12) dX9_planned_12 ?_
  refine rj_isub (pc := 13) dX9_planned_13 ?_
  refine r_istore (pc := 14) dX9_planned_14 (Nat.le_of_ble_eq_true rfl) ?_
  dsimp only [lsSt, List.set, mLs, mEnt]
  refine rj_iconst (pc := 16) dX9_planned_16 ?_
  refine r_istore (pc := 17) dX9_planned_17 (Nat.le_of_ble_eq_true rfl) ?_
  dsimp only [lsSt, List.set, mLs, mEnt]
  exact L_planned d hW hc hZ hcapZ hC hO hs hi 1000000 0 s ((Z : Int) - 1) 0 (by omega) (by omega) (by omega) (by omega)
end mg_9j

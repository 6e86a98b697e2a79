section mg_e0
set_option maxHeartbeats 4000000 in
set_option maxRecDepth 100000 in
theorem kg_undoN {G : mG} {l : Launch} (d : Nat) {h : mH} {x : Nat} {tk : Option Nat} {zr : Nat → Int} {fr : Nat → Nat → Int} {p e o zt : Int} {ft : Nat → Int} {zs : Int} {fs : Nat → Int} {b za : Int} {fa : Nat → Int} {c : Nat → Int} {C : Nat → Nat → Int} {nm : Nat → Int64} {g : Nat → Option Nat} (hK : isK h x none tk zr fr p e o zt ft zs fs b za fa c C nm g) (hc : ∀ q, InR (c q)) (hC : ∀ k q, InR (C k q)) : RUNM G l (d + 9) mX10_undo [.ref x] h (fun v h' => v = some (.int (J (-3))) ∧ h' = h) := by
  refine RUNM.of (by decide +kernel) (Nat.le_of_ble_eq_true rfl) ?_
  have hD := hK.d
  have hS := hK.s
  have hR := hK.r
  have hW := hK.w
  refine r_aload_n (pc := 0) dX10_undo_0 rfl (by first | rfl | exact isRefV_rf _) ?_
  refine r_getf (pc := 1) dX10_undo_1 fX10_306 (by first | assumption | exact isI.gx (by assumption) | exact isI.gc (by assumption) | exact isW.gx (by assumption) | exact isW.gF (by assumption) | exact isW.gT (by assumption) (by omega) | exact isW.gS (by assumption) (by omega) | exact isW.gK (by assumption) (by omega) | exact isW.g1 (by assumption) | exact isW.g2 (by assumption) | exact isW.g3 (by assumption) | exact isI.gx (isW.i0 (by assumption)) | exact isI.gc (isW.i0 (by assumption)) | exact isI.gx (isW.i1 (by assumption)) | exact isI.gc (isW.i1 (by assumption)) | exact isI.gx (isW.i2 (by assumption)) | exact isI.gc (isW.i2 (by assumption)) | exact isI.gx (isW.i3 (by assumption)) | exact isI.gc (isW.i3 (by assumption)) | exact isI.gx (isW.i4 (by assumption)) | exact isI.gc (isW.i4 (by assumption)) | exact isI.gx (isW.i5 (by assumption)) | exact isI.gc (isW.i5 (by assumption)) | exact isR.gx (by assumption) | exact isRd.gx (by assumption) | exact isSp.gx (by assumption) | exact isI.gx (isR.i (by assumption)) | exact isI.gx (isRd.i (by assumption)) | exact isI.gc (isRd.i (by assumption)) | exact isI.gx (isSp.i (by assumption)) | exact isW.gx (isR.w (by assumption)) | exact isW.gF (isR.w (by assumption)) | exact isK.gx (by assumption) | exact isK.gr (by assumption) | exact isI.gx (isK.row (by assumption) (by omega)) | exact isI.gc (isK.row (by assumption) (by omega)) | fail "no such object") (by rfl) ?_
  refine r_ifnonnull (pc := 4) (tgt := 10) dX10_undo_4 (by decide) (by first | rfl | exact isRefV_rf _) (fun a_4 c_4 => by cases c_4) (fun c_4 => ?_)
  refine rj_bipush (pc := 7) dX10_undo_7 (by decide +kernel) ?_
  refine r_ireturn (pc := 9) .int dX10_undo_9 rfl (by first | rfl | assumption) ?_
  exact ⟨rfl, rfl⟩
end mg_e0

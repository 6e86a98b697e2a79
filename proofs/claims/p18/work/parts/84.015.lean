section mg_85
set_option maxHeartbeats 4000000 in
set_option maxRecDepth 100000 in
theorem cq_youngestWithin {G : mG} {l : Launch} (d : Nat) {h : mH} {w : Nat} {c : Nat → Int} {C : Nat → Nat → Int} {nm : Nat → Int64} {g : Nat → Option Nat} (hW : isW h w c C nm g) (hc : ∀ q, InR (c q)) (hO : oOk c) {N : Nat} (hN : c 0 = (N : Int)) (hcap : N ≤ 90) {i : Int} (hi : InR i) : RUNM G l (d + 3) mX9_youngestWithin [.ref w, .int (J i)] h (fun v h' => v = some (.int (J (ywL c i N))) ∧ h' = h) := by
  refine RUNM.of (by decide +kernel) (Nat.le_of_ble_eq_true rfl) ?_
  have r0 := hc 0
  refine r_aload_n (pc := 0) dX9_youngestWithin_0 rfl (by first | rfl | exact isRefV_rf _) ?_
  refine r_getf (pc := 1) dX9_youngestWithin_1 fX9_71 (by first | assumption | exact isI.gx (by assumption) | exact isI.gc (by assumption) | exact isW.gx (by assumption) | exact isW.gF (by assumption) | exact isW.gT (by assumption) (by omega) | exact isW.gS (by assumption) (by omega) | exact isW.gK (by assumption) (by omega) | exact isW.g1 (by assumption) | exact isW.g2 (by assumption) | exact isW.g3 (by assumption) | exact isI.gx (isW.i0 (by assumption)) | exact isI.gc (isW.i0 (by assumption)) | exact isI.gx (isW.i1 (by assumption)) | exact isI.gc (isW.i1 (by assumption)) | exact isI.gx (isW.i2 (by assumption)) | exact isI.gc (isW.i2 (by assumption)) | exact isI.gx (isW.i3 (by assumption)) | exact isI.gc (isW.i3 (by assumption)) | exact isI.gx (isW.i4 (by assumption)) | exact isI.gc (isW.i4 (by assumption)) | exact isI.gx (isW.i5 (by assumption)) | exact isI.gc (isW.i5 (by assumption)) | exact isR.gx (by assumption) | exact isRd.gx (by assumption) | exact isSp.gx (by assumption) | exact isI.gx (isR.i (by assumption)) | exact isI.gx (isRd.i (by assumption)) | exact isI.gc (isRd.i (by assumption)) | exact isI.gx (isSp.i (by assumption)) | exact isW.gx (isR.w (by assumption)) | exact isW.gF (isR.w (by assumption)) | fail "no such object") (by rfl) ?_
  rw [hN]
  refine rj_iconst (pc := 4) dX9_youngestWithin_4 ?_
  refine rj_isub (pc := 5) dX9_youngestWithin_5 ?_
  refine r_istore_n (pc := 6) dX9_youngestWithin_6 (Nat.le_of_ble_eq_true rfl) ?_
  dsimp only [lsSt, List.set, mLs, mEnt]
  exact L_youngestWithin d hW hc hO hN hcap hi N (Nat.le_refl _)
end mg_85

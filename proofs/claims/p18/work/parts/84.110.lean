section mg_9a
set_option maxHeartbeats 4000000 in
set_option maxRecDepth 100000 in
theorem pf_plain {G : mG} {l : Launch} (d : Nat) {h : mH} {r s : Nat} {kd num vl i : Int} {y : Int64} {inn nx : Option Nat} (hs : hGet h s = some (stO kd num vl y inn nx)) (hk : ¬ kd = 63) (hkr : InR kd) {Q : Option Value → mH → Prop} (R : RUN G l d mX3_perform 41 [some (.ref r), some (.ref s), some (.int (J i)), some (.ref s)] [] h Q) : RUNM G l d mX3_perform [.ref r, .ref s, .int (J i)] h Q := by
  refine RUNM.of (by decide +kernel) (Nat.le_of_ble_eq_true rfl) ?_
  have s_u := hs
  unfold stO at s_u
  refine r_aload_n (pc := 0) dX3_perform_0 rfl (by first | rfl | exact isRefV_rf _) ?_
  refine r_astore_n (pc := 1) dX3_perform_1 (Nat.le_of_ble_eq_true rfl) (by first | rfl | exact isRefV_rf _) ?_
  dsimp only [lsSt, List.set, mLs, mEnt]
  refine r_aload_n (pc := 2) dX3_perform_2 rfl (by first | rfl | exact isRefV_rf _) ?_
  refine r_getf (pc := 3) dX3_perform_3 fX3_169 (by first | assumption | exact isI.gx (by assumption) | exact isI.gc (by assumption) | exact isW.gx (by assumption) | exact isW.gF (by assumption) | exact isW.gT (by assumption) (by omega) | exact isW.gS (by assumption) (by omega) | exact isW.gK (by assumption) (by omega) | exact isW.g1 (by assumption) | exact isW.g2 (by assumption) | exact isW.g3 (by assumption) | exact isI.gx (isW.i0 (by assumption)) | exact isI.gc (isW.i0 (by assumption)) | exact isI.gx (isW.i1 (by assumption)) | exact isI.gc (isW.i1 (by assumption)) | exact isI.gx (isW.i2 (by assumption)) | exact isI.gc (isW.i2 (by assumption)) | exact isI.gx (isW.i3 (by assumption)) | exact isI.gc (isW.i3 (by assumption)) | exact isI.gx (isW.i4 (by assumption)) | exact isI.gc (isW.i4 (by assumption)) | exact isI.gx (isW.i5 (by assumption)) | exact isI.gc (isW.i5 (by assumption)) | exact isR.gx (by assumption) | exact isRd.gx (by assumption) | exact isSp.gx (by assumption) | exact isI.gx (isR.i (by assumption)) | exact isI.gx (isRd.i (by assumption)) | exact isI.gc (isRd.i (by assumption)) | exact isI.gx (isSp.i (by assumption)) | exact isW.gx (isR.w (by assumption)) | exact isW.gF (isR.w (by assumption)) | fail "no such object") (by rfl) ?_
  refine rj_bipush (pc := 6) dX3_perform_6 (by decide +kernel) ?_
  refine rj_icmp_ne (pc := 8) (tgt := 41) dX3_perform_8 (by decide) (by first | exact b01_r | exact bz_r | omega | (constructor <;> omega) | apply_assumption | (apply atF_r; assumption) | fail "no range") (by first | exact b01_r | exact bz_r | omega | (constructor <;> omega) | apply_assumption | (apply atF_r; assumption) | fail "no range") (fun c_8 => ?_) (fun c_8 => ?_)
  · exact R
  · exfalso; omega
end mg_9a

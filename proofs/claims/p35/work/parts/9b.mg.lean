section mg_9b
/-! ===== the class: one round of its work ===== -/
theorem vrs (s : Nat) : va_rf (some s) = .ref s := rfl
theorem vrn : va_rf none = .null := rfl
def gcC (c : Nat → Int) (t L : Nat) (k : Int) : Nat → Int := updI (updI (updI (updI c (32 + 3 * t) 1) (34 + 3 * t) (L : Int)) 9 ((L : Int) + 1)) 10 k
def gcD (C : Nat → Nat → Int) (t L Z : Nat) : Nat → Nat → Int := updC (updC C 1 (updI (C 1) L (t : Int))) 2 (drA (t : Int) (C 2) Z)
set_option maxHeartbeats 4000000 in
set_option maxRecDepth 100000 in
theorem cr_closedNow {G : mG} {l : Launch} (d : Nat) {h : mH} {r : Nat} {b z : Int} {f : Nat → Int} {c : Nat → Int} {C : Nat → Nat → Int} {nm : Nat → Int64} {g : Nat → Option Nat} (hR : isR h r b z f c C nm g) (hc : ∀ q, InR (c q)) {t : Nat} (ht : (t : Int) < c 0) (ht2 : t < 90) {L Z : Nat} (hL : c 9 = (L : Int)) (hcapL : L < 90) (hZ : c 10 = (Z : Int)) (hcapZ : Z ≤ 150) (hC : ∀ q, InR (C 2 q)) (hz : InR z) (hz0 : 0 < z) (hg : g (2 * t + 1) = none) : RUNM G l (d + 1) mX3_goOnClosing [.ref r, .int (J (t : Int))] h (fun v h' => v = none ∧ isR h' r b (z - 1) f (gcC c t L (cnt (notB (t : Int) (C 2)) Z)) (gcD C t L Z) nm g ∧ Same (rBlk r) h h') := by
  refine RUNM.of (by decide +kernel) (Nat.le_of_ble_eq_true rfl) ?_
  have hW := hR.w
  refine r_aload_n (pc := 0) dX3_goOnClosing_0 rfl (by first | rfl | exact isRefV_rf _) ?_
  refine r_getf (pc := 1) dX3_goOnClosing_1 fX3_12 (by first | assumption | exact isI.gx (by assumption) | exact isI.gc (by assumption) | exact isW.gx (by assumption) | exact isW.gF (by assumption) | exact isW.gT (by assumption) (by omega) | exact isW.gS (by assumption) (by omega) | exact isW.gK (by assumption) (by omega) | exact isW.g1 (by assumption) | exact isW.g2 (by assumption) | exact isW.g3 (by assumption) | exact isI.gx (isW.i0 (by assumption)) | exact isI.gc (isW.i0 (by assumption)) | exact isI.gx (isW.i1 (by assumption)) | exact isI.gc (isW.i1 (by assumption)) | exact isI.gx (isW.i2 (by assumption)) | exact isI.gc (isW.i2 (by assumption)) | exact isI.gx (isW.i3 (by assumption)) | exact isI.gc (isW.i3 (by assumption)) | exact isI.gx (isW.i4 (by assumption)) | exact isI.gc (isW.i4 (by assumption)) | exact isI.gx (isW.i5 (by assumption)) | exact isI.gc (isW.i5 (by assumption)) | exact isR.gx (by assumption) | exact isRd.gx (by assumption) | exact isSp.gx (by assumption) | exact isI.gx (isR.i (by assumption)) | exact isI.gx (isRd.i (by assumption)) | exact isI.gc (isRd.i (by assumption)) | exact isI.gx (isSp.i (by assumption)) | exact isW.gx (isR.w (by assumption)) | exact isW.gF (isR.w (by assumption)) | fail "no such object") (by rfl) ?_
  refine r_iload_n (pc := 4) dX3_goOnClosing_4 rfl ?_
  refine r_callV1 (pc := 5) dX3_goOnClosing_5 qX9_thingAt kX3_110 vX9_thingAt (by first | assumption | exact isI.gx (by assumption) | exact isI.gc (by assumption) | exact isW.gx (by assumption) | exact isW.gF (by assumption) | exact isW.gT (by assumption) (by omega) | exact isW.gS (by assumption) (by omega) | exact isW.gK (by assumption) (by omega) | exact isW.g1 (by assumption) | exact isW.g2 (by assumption) | exact isW.g3 (by assumption) | exact isI.gx (isW.i0 (by assumption)) | exact isI.gc (isW.i0 (by assumption)) | exact isI.gx (isW.i1 (by assumption)) | exact isI.gc (isW.i1 (by assumption)) | exact isI.gx (isW.i2 (by assumption)) | exact isI.gc (isW.i2 (by assumption)) | exact isI.gx (isW.i3 (by assumption)) | exact isI.gc (isW.i3 (by assumption)) | exact isI.gx (isW.i4 (by assumption)) | exact isI.gc (isW.i4 (by assumption)) | exact isI.gx (isW.i5 (by assumption)) | exact isI.gc (isW.i5 (by assumption)) | exact isR.gx (by assumption) | exact isRd.gx (by assumption) | exact isSp.gx (by assumption) | exact isI.gx (isR.i (by assumption)) | exact isI.gx (isRd.i (by assumption)) | exact isI.gc (isRd.i (by assumption)) | exact isI.gx (isSp.i (by assumption)) | exact isW.gx (isR.w (by assumption)) | exact isW.gF (isR.w (by assumption)) | fail "no such object") rfl rfl (Nat.le_of_ble_eq_true rfl) (cw_thingAt _ hW hc (i := (t : Int)) ⟨by omega, by omega⟩) (fun v_5 h_5 q_5 => ?_)
  obtain ⟨q1_5, rfl⟩ := q_5
  · obtain rfl := thAt_P (by omega) q1_5
    refine r_astore_n (pc := 8) dX3_goOnClosing_8 (Nat.le_of_ble_eq_true rfl) (by first | rfl | exact isRefV_rf _) ?_
    dsimp only [lsSt, List.set, mLs, mEnt]
    refine r_aload_n (pc := 9) dX3_goOnClosing_9 rfl (by first | rfl | exact isRefV_rf _) ?_
    refine r_ifnonnull (pc := 10) (tgt := 18) dX3_goOnClosing_10 (by decide) (by first | rfl | exact isRefV_rf _) (fun a_10 c_10 => ?_) (fun c_10 => by cases c_10)
    rw [Int.toNat_natCast]
    refine r_aload_n (pc := 18) dX3_goOnClosing_18 rfl (by first | rfl | exact isRefV_rf _) ?_
    refine r_getf (pc := 19) dX3_goOnClosing_19 fX3_121 (by first | assumption | exact isI.gx (by assumption) | exact isI.gc (by assumption) | exact isW.gx (by assumption) | exact isW.gF (by assumption) | exact isW.gT (by assumption) (by omega) | exact isW.gS (by assumption) (by omega) | exact isW.gK (by assumption) (by omega) | exact isW.g1 (by assumption) | exact isW.g2 (by assumption) | exact isW.g3 (by assumption) | exact isI.gx (isW.i0 (by assumption)) | exact isI.gc (isW.i0 (by assumption)) | exact isI.gx (isW.i1 (by assumption)) | exact isI.gc (isW.i1 (by assumption)) | exact isI.gx (isW.i2 (by assumption)) | exact isI.gc (isW.i2 (by assumption)) | exact isI.gx (isW.i3 (by assumption)) | exact isI.gc (isW.i3 (by assumption)) | exact isI.gx (isW.i4 (by assumption)) | exact isI.gc (isW.i4 (by assumption)) | exact isI.gx (isW.i5 (by assumption)) | exact isI.gc (isW.i5 (by assumption)) | exact isR.gx (by assumption) | exact isRd.gx (by assumption) | exact isSp.gx (by assumption) | exact isI.gx (isR.i (by assumption)) | exact isI.gx (isRd.i (by assumption)) | exact isI.gc (isRd.i (by assumption)) | exact isI.gx (isSp.i (by assumption)) | exact isW.gx (isR.w (by assumption)) | exact isW.gF (isR.w (by assumption)) | fail "no such object") (by rfl) ?_
    rw [hg, vrn]
    refine r_astore_n (pc := 22) dX3_goOnClosing_22 (Nat.le_of_ble_eq_true rfl) (by first | rfl | exact isRefV_rf _) ?_
    dsimp only [lsSt, List.set, mLs, mEnt]
    refine r_aload_n (pc := 23) dX3_goOnClosing_23 rfl (by first | rfl | exact isRefV_rf _) ?_
    refine r_ifnonnull (pc := 24) (tgt := 74) dX3_goOnClosing_24 (by decide) (by first | rfl | exact isRefV_rf _) (fun a_24 c_24 => by cases c_24) (fun c_24 => ?_)
    refine r_aload_n (pc := 27) dX3_goOnClosing_27 rfl (by first | rfl | exact isRefV_rf _) ?_
    refine rj_iconst (pc := 28) dX3_goOnClosing_28 ?_
    refine rc_putT3 (pc := 29) dX3_goOnClosing_29 fX3_114 (by assumption) (by omega) (fun h_29 hW_29 hS_29 => ?_)
    have R_29 := (hR.ofWr hS_29 hW_29).1
    refine r_aload_n (pc := 32) dX3_goOnClosing_32 rfl (by first | rfl | exact isRefV_rf _) ?_
    refine r_aload_n (pc := 33) dX3_goOnClosing_33 rfl (by first | rfl | exact isRefV_rf _) ?_
    refine r_getf (pc := 34) dX3_goOnClosing_34 fX3_12 (by first | assumption | exact isI.gx (by assumption) | exact isI.gc (by assumption) | exact isW.gx (by assumption) | exact isW.gF (by assumption) | exact isW.gT (by assumption) (by omega) | exact isW.gS (by assumption) (by omega) | exact isW.gK (by assumption) (by omega) | exact isW.g1 (by assumption) | exact isW.g2 (by assumption) | exact isW.g3 (by assumption) | exact isI.gx (isW.i0 (by assumption)) | exact isI.gc (isW.i0 (by assumption)) | exact isI.gx (isW.i1 (by assumption)) | exact isI.gc (isW.i1 (by assumption)) | exact isI.gx (isW.i2 (by assumption)) | exact isI.gc (isW.i2 (by assumption)) | exact isI.gx (isW.i3 (by assumption)) | exact isI.gc (isW.i3 (by assumption)) | exact isI.gx (isW.i4 (by assumption)) | exact isI.gc (isW.i4 (by assumption)) | exact isI.gx (isW.i5 (by assumption)) | exact isI.gc (isW.i5 (by assumption)) | exact isR.gx (by assumption) | exact isRd.gx (by assumption) | exact isSp.gx (by assumption) | exact isI.gx (isR.i (by assumption)) | exact isI.gx (isRd.i (by assumption)) | exact isI.gc (isRd.i (by assumption)) | exact isI.gx (isSp.i (by assumption)) | exact isW.gx (isR.w (by assumption)) | exact isW.gF (isR.w (by assumption)) | fail "no such object") (by rfl) ?_
    refine r_getf (pc := 37) dX3_goOnClosing_37 fX3_127 (by first | assumption | exact isI.gx (by assumption) | exact isI.gc (by assumption) | exact isW.gx (by assumption) | exact isW.gF (by assumption) | exact isW.gT (by assumption) (by omega) | exact isW.gS (by assumption) (by omega) | exact isW.gK (by assumption) (by omega) | exact isW.g1 (by assumption) | exact isW.g2 (by assumption) | exact isW.g3 (by assumption) | exact isI.gx (isW.i0 (by assumption)) | exact isI.gc (isW.i0 (by assumption)) | exact isI.gx (isW.i1 (by assumption)) | exact isI.gc (isW.i1 (by assumption)) | exact isI.gx (isW.i2 (by assumption)) | exact isI.gc (isW.i2 (by assumption)) | exact isI.gx (isW.i3 (by assumption)) | exact isI.gc (isW.i3 (by assumption)) | exact isI.gx (isW.i4 (by assumption)) | exact isI.gc (isW.i4 (by assumption)) | exact isI.gx (isW.i5 (by assumption)) | exact isI.gc (isW.i5 (by assumption)) | exact isR.gx (by assumption) | exact isRd.gx (by assumption) | exact isSp.gx (by assumption) | exact isI.gx (isR.i (by assumption)) | exact isI.gx (isRd.i (by assumption)) | exact isI.gc (isRd.i (by assumption)) | exact isI.gx (isSp.i (by assumption)) | exact isW.gx (isR.w (by assumption)) | exact isW.gF (isR.w (by assumption)) | fail "no such object") (by rfl) ?_
    refine r_getf (pc := 40) dX3_goOnClosing_40 fX3_88 (by first | assumption | exact isI.gx (by assumption) | exact isI.gc (by assumption) | exact isW.gx (by assumption) | exact isW.gF (by assumption) | exact isW.gT (by assumption) (by omega) | exact isW.gS (by assumption) (by omega) | exact isW.gK (by assumption) (by omega) | exact isW.g1 (by assumption) | exact isW.g2 (by assumption) | exact isW.g3 (by assumption) | exact isI.gx (isW.i0 (by assumption)) | exact isI.gc (isW.i0 (by assumption)) | exact isI.gx (isW.i1 (by assumption)) | exact isI.gc (isW.i1 (by assumption)) | exact isI.gx (isW.i2 (by assumption)) | exact isI.gc (isW.i2 (by assumption)) | exact isI.gx (isW.i3 (by assumption)) | exact isI.gc (isW.i3 (by assumption)) | exact isI.gx (isW.i4 (by assumption)) | exact isI.gc (isW.i4 (by assumption)) | exact isI.gx (isW.i5 (by assumption)) | exact isI.gc (isW.i5 (by assumption)) | exact isR.gx (by assumption) | exact isRd.gx (by assumption) | exact isSp.gx (by assumption) | exact isI.gx (isR.i (by assumption)) | exact isI.gx (isRd.i (by assumption)) | exact isI.gc (isRd.i (by assumption)) | exact isI.gx (isSp.i (by assumption)) | exact isW.gx (isR.w (by assumption)) | exact isW.gF (isR.w (by assumption)) | fail "no such object") (by rfl) ?_
    rw [show updI c (32 + 3 * t) 1 9 = (L : Int) from (updI_n (by omega)).trans hL]
    refine rc_putT5 (pc := 43) dX3_goOnClosing_43 fX3_130 (by assumption) (by omega) (fun h_43 hW_43 hS_43 => ?_)
    have R_43 := (hR.ofWr (hS_29.trans hS_43) hW_43).1
    refine r_aload_n (pc := 46) dX3_goOnClosing_46 rfl (by first | rfl | exact isRefV_rf _) ?_
    refine r_getf (pc := 47) dX3_goOnClosing_47 fX3_12 (by first | assumption | exact isI.gx (by assumption) | exact isI.gc (by assumption) | exact isW.gx (by assumption) | exact isW.gF (by assumption) | exact isW.gT (by assumption) (by omega) | exact isW.gS (by assumption) (by omega) | exact isW.gK (by assumption) (by omega) | exact isW.g1 (by assumption) | exact isW.g2 (by assumption) | exact isW.g3 (by assumption) | exact isI.gx (isW.i0 (by assumption)) | exact isI.gc (isW.i0 (by assumption)) | exact isI.gx (isW.i1 (by assumption)) | exact isI.gc (isW.i1 (by assumption)) | exact isI.gx (isW.i2 (by assumption)) | exact isI.gc (isW.i2 (by assumption)) | exact isI.gx (isW.i3 (by assumption)) | exact isI.gc (isW.i3 (by assumption)) | exact isI.gx (isW.i4 (by assumption)) | exact isI.gc (isW.i4 (by assumption)) | exact isI.gx (isW.i5 (by assumption)) | exact isI.gc (isW.i5 (by assumption)) | exact isR.gx (by assumption) | exact isRd.gx (by assumption) | exact isSp.gx (by assumption) | exact isI.gx (isR.i (by assumption)) | exact isI.gx (isRd.i (by assumption)) | exact isI.gc (isRd.i (by assumption)) | exact isI.gx (isSp.i (by assumption)) | exact isW.gx (isR.w (by assumption)) | exact isW.gF (isR.w (by assumption)) | fail "no such object") (by rfl) ?_
    refine r_getf (pc := 50) dX3_goOnClosing_50 fX3_127 (by first | assumption | exact isI.gx (by assumption) | exact isI.gc (by assumption) | exact isW.gx (by assumption) | exact isW.gF (by assumption) | exact isW.gT (by assumption) (by omega) | exact isW.gS (by assumption) (by omega) | exact isW.gK (by assumption) (by omega) | exact isW.g1 (by assumption) | exact isW.g2 (by assumption) | exact isW.g3 (by assumption) | exact isI.gx (isW.i0 (by assumption)) | exact isI.gc (isW.i0 (by assumption)) | exact isI.gx (isW.i1 (by assumption)) | exact isI.gc (isW.i1 (by assumption)) | exact isI.gx (isW.i2 (by assumption)) | exact isI.gc (isW.i2 (by assumption)) | exact isI.gx (isW.i3 (by assumption)) | exact isI.gc (isW.i3 (by assumption)) | exact isI.gx (isW.i4 (by assumption)) | exact isI.gc (isW.i4 (by assumption)) | exact isI.gx (isW.i5 (by assumption)) | exact isI.gc (isW.i5 (by assumption)) | exact isR.gx (by assumption) | exact isRd.gx (by assumption) | exact isSp.gx (by assumption) | exact isI.gx (isR.i (by assumption)) | exact isI.gx (isRd.i (by assumption)) | exact isI.gc (isRd.i (by assumption)) | exact isI.gx (isSp.i (by assumption)) | exact isW.gx (isR.w (by assumption)) | exact isW.gF (isR.w (by assumption)) | fail "no such object") (by rfl) ?_
    refine r_iload_n (pc := 53) dX3_goOnClosing_53 rfl ?_
    have i1 := hW_43.i1
    have z1 : updI (updI c (32 + 3 * t) 1) (34 + 3 * t) (L : Int) 9 = (L : Int) := (updI_n (by omega)).trans ((updI_n (by omega)).trans hL)
    rw [z1] at i1
    refine r_callV1 (pc := 54) dX3_goOnClosing_54 qX1_append kX3_84 vX1_append (by first | assumption | exact isI.gx (by assumption) | exact isI.gc (by assumption) | exact isW.gx (by assumption) | exact isW.gF (by assumption) | exact isW.gT (by assumption) (by omega) | exact isW.gS (by assumption) (by omega) | exact isW.gK (by assumption) (by omega) | exact isW.g1 (by assumption) | exact isW.g2 (by assumption) | exact isW.g3 (by assumption) | exact isI.gx (isW.i0 (by assumption)) | exact isI.gc (isW.i0 (by assumption)) | exact isI.gx (isW.i1 (by assumption)) | exact isI.gc (isW.i1 (by assumption)) | exact isI.gx (isW.i2 (by assumption)) | exact isI.gc (isW.i2 (by assumption)) | exact isI.gx (isW.i3 (by assumption)) | exact isI.gc (isW.i3 (by assumption)) | exact isI.gx (isW.i4 (by assumption)) | exact isI.gc (isW.i4 (by assumption)) | exact isI.gx (isW.i5 (by assumption)) | exact isI.gc (isW.i5 (by assumption)) | exact isR.gx (by assumption) | exact isRd.gx (by assumption) | exact isSp.gx (by assumption) | exact isI.gx (isR.i (by assumption)) | exact isI.gx (isRd.i (by assumption)) | exact isI.gc (isRd.i (by assumption)) | exact isI.gx (isSp.i (by assumption)) | exact isW.gx (isR.w (by assumption)) | exact isW.gF (isR.w (by assumption)) | fail "no such object") rfl rfl (Nat.le_of_ble_eq_true rfl) (ci_append _ i1 (by decide) ⟨by omega, by omega⟩ (t : Int)) (fun v_54 h_54 q_54 => ?_)
    obtain ⟨rfl, I_54, S_54⟩ := q_54
    rw [if_pos (by omega), if_pos (by omega)] at I_54
    have W_54 := hW_43.ofI (j := 1) (by decide) S_54 I_54
    have T_54 := S_54.mono (P' := wBlk (rA r 1)) (fun b hb => iBlk_wBlk (j := 1) hb)
    have R_54 := (hR.ofWr ((hS_29.trans hS_43).trans T_54) W_54).1
    refine r_pop (pc := 57) dX3_goOnClosing_57 (by first | rfl | (cases ‹Option Nat› <;> rfl)) ?_
    refine r_aload_n (pc := 58) dX3_goOnClosing_58 rfl (by first | rfl | exact isRefV_rf _) ?_
    refine r_getf (pc := 59) dX3_goOnClosing_59 fX3_12 (by first | assumption | exact isI.gx (by assumption) | exact isI.gc (by assumption) | exact isW.gx (by assumption) | exact isW.gF (by assumption) | exact isW.gT (by assumption) (by omega) | exact isW.gS (by assumption) (by omega) | exact isW.gK (by assumption) (by omega) | exact isW.g1 (by assumption) | exact isW.g2 (by assumption) | exact isW.g3 (by assumption) | exact isI.gx (isW.i0 (by assumption)) | exact isI.gc (isW.i0 (by assumption)) | exact isI.gx (isW.i1 (by assumption)) | exact isI.gc (isW.i1 (by assumption)) | exact isI.gx (isW.i2 (by assumption)) | exact isI.gc (isW.i2 (by assumption)) | exact isI.gx (isW.i3 (by assumption)) | exact isI.gc (isW.i3 (by assumption)) | exact isI.gx (isW.i4 (by assumption)) | exact isI.gc (isW.i4 (by assumption)) | exact isI.gx (isW.i5 (by assumption)) | exact isI.gc (isW.i5 (by assumption)) | exact isR.gx (by assumption) | exact isRd.gx (by assumption) | exact isSp.gx (by assumption) | exact isI.gx (isR.i (by assumption)) | exact isI.gx (isRd.i (by assumption)) | exact isI.gc (isRd.i (by assumption)) | exact isI.gx (isSp.i (by assumption)) | exact isW.gx (isR.w (by assumption)) | exact isW.gF (isR.w (by assumption)) | fail "no such object") (by rfl) ?_
    refine r_getf (pc := 62) dX3_goOnClosing_62 fX3_133 (by first | assumption | exact isI.gx (by assumption) | exact isI.gc (by assumption) | exact isW.gx (by assumption) | exact isW.gF (by assumption) | exact isW.gT (by assumption) (by omega) | exact isW.gS (by assumption) (by omega) | exact isW.gK (by assumption) (by omega) | exact isW.g1 (by assumption) | exact isW.g2 (by assumption) | exact isW.g3 (by assumption) | exact isI.gx (isW.i0 (by assumption)) | exact isI.gc (isW.i0 (by assumption)) | exact isI.gx (isW.i1 (by assumption)) | exact isI.gc (isW.i1 (by assumption)) | exact isI.gx (isW.i2 (by assumption)) | exact isI.gc (isW.i2 (by assumption)) | exact isI.gx (isW.i3 (by assumption)) | exact isI.gc (isW.i3 (by assumption)) | exact isI.gx (isW.i4 (by assumption)) | exact isI.gc (isW.i4 (by assumption)) | exact isI.gx (isW.i5 (by assumption)) | exact isI.gc (isW.i5 (by assumption)) | exact isR.gx (by assumption) | exact isRd.gx (by assumption) | exact isSp.gx (by assumption) | exact isI.gx (isR.i (by assumption)) | exact isI.gx (isRd.i (by assumption)) | exact isI.gc (isRd.i (by assumption)) | exact isI.gx (isSp.i (by assumption)) | exact isW.gx (isR.w (by assumption)) | exact isW.gF (isR.w (by assumption)) | fail "no such object") (by rfl) ?_
    refine r_iload_n (pc := 65) dX3_goOnClosing_65 rfl ?_
    have i2 := W_54.i2
    have z2 : updI (updI (updI c (32 + 3 * t) 1) (34 + 3 * t) (L : Int)) (8 + 1) ((L : Int) + 1) 10 = (Z : Int) := (updI_n (by omega)).trans ((updI_n (by omega)).trans ((updI_n (by omega)).trans hZ))
    rw [z2] at i2
    refine r_callV1 (pc := 66) dX3_goOnClosing_66 qX1_drop kX3_136 vX1_drop (by first | assumption | exact isI.gx (by assumption) | exact isI.gc (by assumption) | exact isW.gx (by assumption) | exact isW.gF (by assumption) | exact isW.gT (by assumption) (by omega) | exact isW.gS (by assumption) (by omega) | exact isW.gK (by assumption) (by omega) | exact isW.g1 (by assumption) | exact isW.g2 (by assumption) | exact isW.g3 (by assumption) | exact isI.gx (isW.i0 (by assumption)) | exact isI.gc (isW.i0 (by assumption)) | exact isI.gx (isW.i1 (by assumption)) | exact isI.gc (isW.i1 (by assumption)) | exact isI.gx (isW.i2 (by assumption)) | exact isI.gc (isW.i2 (by assumption)) | exact isI.gx (isW.i3 (by assumption)) | exact isI.gc (isW.i3 (by assumption)) | exact isI.gx (isW.i4 (by assumption)) | exact isI.gc (isW.i4 (by assumption)) | exact isI.gx (isW.i5 (by assumption)) | exact isI.gc (isW.i5 (by assumption)) | exact isR.gx (by assumption) | exact isRd.gx (by assumption) | exact isSp.gx (by assumption) | exact isI.gx (isR.i (by assumption)) | exact isI.gx (isRd.i (by assumption)) | exact isI.gc (isRd.i (by assumption)) | exact isI.gx (isSp.i (by assumption)) | exact isW.gx (isR.w (by assumption)) | exact isW.gF (isR.w (by assumption)) | fail "no such object") rfl rfl (Nat.le_of_ble_eq_true rfl) (ci_drop _ i2 (x := (t : Int)) ⟨by omega, by omega⟩ (by decide) hcapZ hC) (fun v_66 h_66 q_66 => ?_)
    obtain ⟨rfl, I_66, S_66⟩ := q_66
    have W_66 := W_54.ofI (j := 2) (by decide) S_66 I_66
    have T_66 := S_66.mono (P' := wBlk (rA r 1)) (fun b hb => iBlk_wBlk (j := 2) hb)
    have R_66 := hR.ofWr (((hS_29.trans hS_43).trans T_54).trans T_66) W_66
    have rk := cnt_r (notB (t : Int) (C 2)) Z
    have hcc : ∀ q, InR (updI (updI (updI (updI c (32 + 3 * t) 1) (34 + 3 * t) (L : Int)) (8 + 1) ((L : Int) + 1)) (8 + 2) (cnt (notB (t : Int) (C 2)) Z) q) := updI_R (updI_R (updI_R (updI_R hc (by decide)) ⟨by omega, by omega⟩) ⟨by omega, by omega⟩) ⟨by omega, by omega⟩
    have hR := R_66.1
    refine r_aload_n (pc := 69) dX3_goOnClosing_69 rfl (by first | rfl | exact isRefV_rf _) ?_
    refine r_callV0 (pc := 70) dX3_goOnClosing_70 qX3_leave kX3_124 vX3_leave (by first | assumption | exact isI.gx (by assumption) | exact isI.gc (by assumption) | exact isW.gx (by assumption) | exact isW.gF (by assumption) | exact isW.gT (by assumption) (by omega) | exact isW.gS (by assumption) (by omega) | exact isW.gK (by assumption) (by omega) | exact isW.g1 (by assumption) | exact isW.g2 (by assumption) | exact isW.g3 (by assumption) | exact isI.gx (isW.i0 (by assumption)) | exact isI.gc (isW.i0 (by assumption)) | exact isI.gx (isW.i1 (by assumption)) | exact isI.gc (isW.i1 (by assumption)) | exact isI.gx (isW.i2 (by assumption)) | exact isI.gc (isW.i2 (by assumption)) | exact isI.gx (isW.i3 (by assumption)) | exact isI.gc (isW.i3 (by assumption)) | exact isI.gx (isW.i4 (by assumption)) | exact isI.gc (isW.i4 (by assumption)) | exact isI.gx (isW.i5 (by assumption)) | exact isI.gc (isW.i5 (by assumption)) | exact isR.gx (by assumption) | exact isRd.gx (by assumption) | exact isSp.gx (by assumption) | exact isI.gx (isR.i (by assumption)) | exact isI.gx (isRd.i (by assumption)) | exact isI.gc (isRd.i (by assumption)) | exact isI.gx (isSp.i (by assumption)) | exact isW.gx (isR.w (by assumption)) | exact isW.gF (isR.w (by assumption)) | fail "no such object") rfl rfl (Nat.le_of_ble_eq_true rfl) (cr_leave _ R_66.1 hcc hz hz0) (fun v_70 h_70 q_70 => ?_)
    obtain ⟨rfl, R_70, S_70⟩ := q_70
    refine r_return (pc := 73) dX3_goOnClosing_73 rfl ?_
    exact ⟨rfl, R_70, R_66.2.trans S_70⟩
set_option maxHeartbeats 4000000 in
set_option maxRecDepth 100000 in
theorem cr_closeStepOk {G : mG} {l : Launch} (d : Nat) {h : mH} {r : Nat} {b z : Int} {f : Nat → Int} {c : Nat → Int} {C : Nat → Nat → Int} {nm : Nat → Int64} {g : Nat → Option Nat} (hR : isR h r b z f c C nm g) (hc : ∀ q, InR (c q)) {t : Nat} (ht : (t : Int) < c 0) (ht2 : t < 90) {s : Nat} {kd num vl : Int} {y : Int64} {inn nx : Option Nat} (hg : g (2 * t + 1) = some s) (hs : hGet h s = some (stO kd num vl y inn nx)) (hsr : ¬ rBlk r s) {R : mH → Prop} (P : ∀ h1, isR h1 r b z f c C nm (updO g (2 * t + 1) nx) → Same (rBlk r) h h1 → RUNM G l (d + 1) mX3_perform [.ref r, .ref s, .int (J (c (33 + 3 * t)))] h1 (fun v h' => v = some (.int (J 0)) ∧ R h')) : RUNM G l (d + 2) mX3_goOnClosing [.ref r, .int (J (t : Int))] h (fun v h' => v = none ∧ R h') := by
  refine RUNM.of (by decide +kernel) (Nat.le_of_ble_eq_true rfl) ?_
  have hW := hR.w
  refine r_aload_n (pc := 0) dX3_goOnClosing_0 rfl (by first | rfl | exact isRefV_rf _) ?_
  refine r_getf (pc := 1) dX3_goOnClosing_1 fX3_12 (by first | assumption | exact isI.gx (by assumption) | exact isI.gc (by assumption) | exact isW.gx (by assumption) | exact isW.gF (by assumption) | exact isW.gT (by assumption) (by omega) | exact isW.gS (by assumption) (by omega) | exact isW.gK (by assumption) (by omega) | exact isW.g1 (by assumption) | exact isW.g2 (by assumption) | exact isW.g3 (by assumption) | exact isI.gx (isW.i0 (by assumption)) | exact isI.gc (isW.i0 (by assumption)) | exact isI.gx (isW.i1 (by assumption)) | exact isI.gc (isW.i1 (by assumption)) | exact isI.gx (isW.i2 (by assumption)) | exact isI.gc (isW.i2 (by assumption)) | exact isI.gx (isW.i3 (by assumption)) | exact isI.gc (isW.i3 (by assumption)) | exact isI.gx (isW.i4 (by assumption)) | exact isI.gc (isW.i4 (by assumption)) | exact isI.gx (isW.i5 (by assumption)) | exact isI.gc (isW.i5 (by assumption)) | exact isR.gx (by assumption) | exact isRd.gx (by assumption) | exact isSp.gx (by assumption) | exact isI.gx (isR.i (by assumption)) | exact isI.gx (isRd.i (by assumption)) | exact isI.gc (isRd.i (by assumption)) | exact isI.gx (isSp.i (by assumption)) | exact isW.gx (isR.w (by assumption)) | exact isW.gF (isR.w (by assumption)) | fail "no such object") (by rfl) ?_
  refine r_iload_n (pc := 4) dX3_goOnClosing_4 rfl ?_
  refine r_callV1 (pc := 5) dX3_goOnClosing_5 qX9_thingAt kX3_110 vX9_thingAt (by first | assumption | exact isI.gx (by assumption) | exact isI.gc (by assumption) | exact isW.gx (by assumption) | exact isW.gF (by assumption) | exact isW.gT (by assumption) (by omega) | exact isW.gS (by assumption) (by omega) | exact isW.gK (by assumption) (by omega) | exact isW.g1 (by assumption) | exact isW.g2 (by assumption) | exact isW.g3 (by assumption) | exact isI.gx (isW.i0 (by assumption)) | exact isI.gc (isW.i0 (by assumption)) | exact isI.gx (isW.i1 (by assumption)) | exact isI.gc (isW.i1 (by assumption)) | exact isI.gx (isW.i2 (by assumption)) | exact isI.gc (isW.i2 (by assumption)) | exact isI.gx (isW.i3 (by assumption)) | exact isI.gc (isW.i3 (by assumption)) | exact isI.gx (isW.i4 (by assumption)) | exact isI.gc (isW.i4 (by assumption)) | exact isI.gx (isW.i5 (by assumption)) | exact isI.gc (isW.i5 (by assumption)) | exact isR.gx (by assumption) | exact isRd.gx (by assumption) | exact isSp.gx (by assumption) | exact isI.gx (isR.i (by assumption)) | exact isI.gx (isRd.i (by assumption)) | exact isI.gc (isRd.i (by assumption)) | exact isI.gx (isSp.i (by assumption)) | exact isW.gx (isR.w (by assumption)) | exact isW.gF (isR.w (by assumption)) | fail "no such object") rfl rfl (Nat.le_of_ble_eq_true rfl) (cw_thingAt _ hW hc (i := (t : Int)) ⟨by omega, by omega⟩) (fun v_5 h_5 q_5 => ?_)
  obtain ⟨q1_5, rfl⟩ := q_5
  · obtain rfl := thAt_P (by omega) q1_5
    refine r_astore_n (pc := 8) dX3_goOnClosing_8 (Nat.le_of_ble_eq_true rfl) (by first | rfl | exact isRefV_rf _) ?_
    dsimp only [lsSt, List.set, mLs, mEnt]
    refine r_aload_n (pc := 9) dX3_goOnClosing_9 rfl (by first | rfl | exact isRefV_rf _) ?_
    refine r_ifnonnull (pc := 10) (tgt := 18) dX3_goOnClosing_10 (by decide) (by first | rfl | exact isRefV_rf _) (fun a_10 c_10 => ?_) (fun c_10 => by cases c_10)
    rw [Int.toNat_natCast]
    refine r_aload_n (pc := 18) dX3_goOnClosing_18 rfl (by first | rfl | exact isRefV_rf _) ?_
    refine r_getf (pc := 19) dX3_goOnClosing_19 fX3_121 (by first | assumption | exact isI.gx (by assumption) | exact isI.gc (by assumption) | exact isW.gx (by assumption) | exact isW.gF (by assumption) | exact isW.gT (by assumption) (by omega) | exact isW.gS (by assumption) (by omega) | exact isW.gK (by assumption) (by omega) | exact isW.g1 (by assumption) | exact isW.g2 (by assumption) | exact isW.g3 (by assumption) | exact isI.gx (isW.i0 (by assumption)) | exact isI.gc (isW.i0 (by assumption)) | exact isI.gx (isW.i1 (by assumption)) | exact isI.gc (isW.i1 (by assumption)) | exact isI.gx (isW.i2 (by assumption)) | exact isI.gc (isW.i2 (by assumption)) | exact isI.gx (isW.i3 (by assumption)) | exact isI.gc (isW.i3 (by assumption)) | exact isI.gx (isW.i4 (by assumption)) | exact isI.gc (isW.i4 (by assumption)) | exact isI.gx (isW.i5 (by assumption)) | exact isI.gc (isW.i5 (by assumption)) | exact isR.gx (by assumption) | exact isRd.gx (by assumption) | exact isSp.gx (by assumption) | exact isI.gx (isR.i (by assumption)) | exact isI.gx (isRd.i (by assumption)) | exact isI.gc (isRd.i (by assumption)) | exact isI.gx (isSp.i (by assumption)) | exact isW.gx (isR.w (by assumption)) | exact isW.gF (isR.w (by assumption)) | fail "no such object") (by rfl) ?_
    rw [hg, vrs]
    refine r_astore_n (pc := 22) dX3_goOnClosing_22 (Nat.le_of_ble_eq_true rfl) (by first | rfl | exact isRefV_rf _) ?_
    dsimp only [lsSt, List.set, mLs, mEnt]
    refine r_aload_n (pc := 23) dX3_goOnClosing_23 rfl (by first | rfl | exact isRefV_rf _) ?_
    refine r_ifnonnull (pc := 24) (tgt := 74) dX3_goOnClosing_24 (by decide) (by first | rfl | exact isRefV_rf _) (fun a_24 c_24 => ?_) (fun c_24 => by cases c_24)
    refine r_aload_n (pc := 74) dX3_goOnClosing_74 rfl (by first | rfl | exact isRefV_rf _) ?_
    have s_u := hs
    unfold stO at s_u
    refine r_aload_n (pc := 75) dX3_goOnClosing_75 rfl (by first | rfl | exact isRefV_rf _) ?_
    refine r_getf (pc := 76) dX3_goOnClosing_76 fX3_139 (by first | assumption | exact isI.gx (by assumption) | exact isI.gc (by assumption) | exact isW.gx (by assumption) | exact isW.gF (by assumption) | exact isW.gT (by assumption) (by omega) | exact isW.gS (by assumption) (by omega) | exact isW.gK (by assumption) (by omega) | exact isW.g1 (by assumption) | exact isW.g2 (by assumption) | exact isW.g3 (by assumption) | exact isI.gx (isW.i0 (by assumption)) | exact isI.gc (isW.i0 (by assumption)) | exact isI.gx (isW.i1 (by assumption)) | exact isI.gc (isW.i1 (by assumption)) | exact isI.gx (isW.i2 (by assumption)) | exact isI.gc (isW.i2 (by assumption)) | exact isI.gx (isW.i3 (by assumption)) | exact isI.gc (isW.i3 (by assumption)) | exact isI.gx (isW.i4 (by assumption)) | exact isI.gc (isW.i4 (by assumption)) | exact isI.gx (isW.i5 (by assumption)) | exact isI.gc (isW.i5 (by assumption)) | exact isR.gx (by assumption) | exact isRd.gx (by assumption) | exact isSp.gx (by assumption) | exact isI.gx (isR.i (by assumption)) | exact isI.gx (isRd.i (by assumption)) | exact isI.gc (isRd.i (by assumption)) | exact isI.gx (isSp.i (by assumption)) | exact isW.gx (isR.w (by assumption)) | exact isW.gF (isR.w (by assumption)) | fail "no such object") (by rfl) ?_
    refine rc_putT2 (pc := 79) dX3_goOnClosing_79 fX3_121 (by assumption) (by omega) (fun h_79 hW_79 hS_79 => ?_)
    have R_79 := hR.ofWr hS_79 hW_79
    have Q_79 := R_79.1
    refine r_aload_n (pc := 82) dX3_goOnClosing_82 rfl (by first | rfl | exact isRefV_rf _) ?_
    refine r_aload_n (pc := 83) dX3_goOnClosing_83 rfl (by first | rfl | exact isRefV_rf _) ?_
    refine r_aload_n (pc := 84) dX3_goOnClosing_84 rfl (by first | rfl | exact isRefV_rf _) ?_
    refine r_getf (pc := 85) dX3_goOnClosing_85 fX3_144 (by first | assumption | exact isI.gx (by assumption) | exact isI.gc (by assumption) | exact isW.gx (by assumption) | exact isW.gF (by assumption) | exact isW.gT (by assumption) (by omega) | exact isW.gS (by assumption) (by omega) | exact isW.gK (by assumption) (by omega) | exact isW.g1 (by assumption) | exact isW.g2 (by assumption) | exact isW.g3 (by assumption) | exact isI.gx (isW.i0 (by assumption)) | exact isI.gc (isW.i0 (by assumption)) | exact isI.gx (isW.i1 (by assumption)) | exact isI.gc (isW.i1 (by assumption)) | exact isI.gx (isW.i2 (by assumption)) | exact isI.gc (isW.i2 (by assumption)) | exact isI.gx (isW.i3 (by assumption)) | exact isI.gc (isW.i3 (by assumption)) | exact isI.gx (isW.i4 (by assumption)) | exact isI.gc (isW.i4 (by assumption)) | exact isI.gx (isW.i5 (by assumption)) | exact isI.gc (isW.i5 (by assumption)) | exact isR.gx (by assumption) | exact isRd.gx (by assumption) | exact isSp.gx (by assumption) | exact isI.gx (isR.i (by assumption)) | exact isI.gx (isRd.i (by assumption)) | exact isI.gc (isRd.i (by assumption)) | exact isI.gx (isSp.i (by assumption)) | exact isW.gx (isR.w (by assumption)) | exact isW.gF (isR.w (by assumption)) | fail "no such object") (by rfl) ?_
    refine r_callV2 (pc := 88) dX3_goOnClosing_88 qX3_perform kX3_147 vX3_perform (by first | assumption | exact isI.gx (by assumption) | exact isI.gc (by assumption) | exact isW.gx (by assumption) | exact isW.gF (by assumption) | exact isW.gT (by assumption) (by omega) | exact isW.gS (by assumption) (by omega) | exact isW.gK (by assumption) (by omega) | exact isW.g1 (by assumption) | exact isW.g2 (by assumption) | exact isW.g3 (by assumption) | exact isI.gx (isW.i0 (by assumption)) | exact isI.gc (isW.i0 (by assumption)) | exact isI.gx (isW.i1 (by assumption)) | exact isI.gc (isW.i1 (by assumption)) | exact isI.gx (isW.i2 (by assumption)) | exact isI.gc (isW.i2 (by assumption)) | exact isI.gx (isW.i3 (by assumption)) | exact isI.gc (isW.i3 (by assumption)) | exact isI.gx (isW.i4 (by assumption)) | exact isI.gc (isW.i4 (by assumption)) | exact isI.gx (isW.i5 (by assumption)) | exact isI.gc (isW.i5 (by assumption)) | exact isR.gx (by assumption) | exact isRd.gx (by assumption) | exact isSp.gx (by assumption) | exact isI.gx (isR.i (by assumption)) | exact isI.gx (isRd.i (by assumption)) | exact isI.gc (isRd.i (by assumption)) | exact isI.gx (isSp.i (by assumption)) | exact isW.gx (isR.w (by assumption)) | exact isW.gF (isR.w (by assumption)) | fail "no such object") rfl rfl (Nat.le_of_ble_eq_true rfl) (P _ R_79.1 R_79.2) (fun v_88 h_88 q_88 => ?_)
    obtain ⟨rfl, R_88⟩ := q_88
    refine r_istore (pc := 91) dX3_goOnClosing_91 (Nat.le_of_ble_eq_true rfl) ?_
    dsimp only [lsSt, List.set, mLs, mEnt]
    refine r_iload (pc := 93) dX3_goOnClosing_93 rfl ?_
    refine rj_if_eq (pc := 95) (tgt := 120) dX3_goOnClosing_95 (by decide) (by first | exact b01_r | exact bz_r | omega | (constructor <;> omega) | apply_assumption | (apply atF_r; assumption) | fail "no range") (fun c_95 => ?_) (fun c_95 => ?_)
    · try simp only [b01_0, bz_0, Classical.not_not] at c_95
      refine r_return (pc := 120) dX3_goOnClosing_120 rfl ?_
      exact ⟨rfl, R_88⟩
    · try simp only [b01_0, bz_0, Classical.not_not] at c_95
      exact absurd trivial c_95
set_option maxHeartbeats 4000000 in
set_option maxRecDepth 100000 in
theorem cr_closeStepFault {G : mG} {l : Launch} (d : Nat) {h : mH} {r : Nat} {b z : Int} {f : Nat → Int} {c : Nat → Int} {C : Nat → Nat → Int} {nm : Nat → Int64} {g : Nat → Option Nat} (hR : isR h r b z f c C nm g) (hc : ∀ q, InR (c q)) {t : Nat} (ht : (t : Int) < c 0) (ht2 : t < 90) {s : Nat} {kd num vl : Int} {y : Int64} {inn nx : Option Nat} (hg : g (2 * t + 1) = some s) (hs : hGet h s = some (stO kd num vl y inn nx)) (hsr : ¬ rBlk r s) {F : Nat} (h11 : c 11 = (F : Int)) (h12 : c 12 = (F : Int)) (h13 : c 13 = (F : Int)) (hcapF : F < 90) {j : Int} (hj : InR j) (hj0 : ¬ j = 0) (P : ∀ h1, isR h1 r b z f c C nm (updO g (2 * t + 1) nx) → Same (rBlk r) h h1 → RUNM G l (d + 1) mX3_perform [.ref r, .ref s, .int (J (c (33 + 3 * t)))] h1 (fun v h' => v = some (.int (J j)) ∧ h' = h1)) : RUNM G l (d + 2) mX3_goOnClosing [.ref r, .int (J (t : Int))] h (fun v h' => v = none ∧ isR h' r b z f (gaC c F) (gaD C F j (t : Int) b) nm (updO (updO g (2 * t + 1) nx) (2 * t + 1) none) ∧ Same (rBlk r) h h') := by
  refine RUNM.of (by decide +kernel) (Nat.le_of_ble_eq_true rfl) ?_
  have hW := hR.w
  refine r_aload_n (pc := 0) dX3_goOnClosing_0 rfl (by first | rfl | exact isRefV_rf _) ?_
  refine r_getf (pc := 1) dX3_goOnClosing_1 fX3_12 (by first | assumption | exact isI.gx (by assumption) | exact isI.gc (by assumption) | exact isW.gx (by assumption) | exact isW.gF (by assumption) | exact isW.gT (by assumption) (by omega) | exact isW.gS (by assumption) (by omega) | exact isW.gK (by assumption) (by omega) | exact isW.g1 (by assumption) | exact isW.g2 (by assumption) | exact isW.g3 (by assumption) | exact isI.gx (isW.i0 (by assumption)) | exact isI.gc (isW.i0 (by assumption)) | exact isI.gx (isW.i1 (by assumption)) | exact isI.gc (isW.i1 (by assumption)) | exact isI.gx (isW.i2 (by assumption)) | exact isI.gc (isW.i2 (by assumption)) | exact isI.gx (isW.i3 (by assumption)) | exact isI.gc (isW.i3 (by assumption)) | exact isI.gx (isW.i4 (by assumption)) | exact isI.gc (isW.i4 (by assumption)) | exact isI.gx (isW.i5 (by assumption)) | exact isI.gc (isW.i5 (by assumption)) | exact isR.gx (by assumption) | exact isRd.gx (by assumption) | exact isSp.gx (by assumption) | exact isI.gx (isR.i (by assumption)) | exact isI.gx (isRd.i (by assumption)) | exact isI.gc (isRd.i (by assumption)) | exact isI.gx (isSp.i (by assumption)) | exact isW.gx (isR.w (by assumption)) | exact isW.gF (isR.w (by assumption)) | fail "no such object") (by rfl) ?_
  refine r_iload_n (pc := 4) dX3_goOnClosing_4 rfl ?_
  refine r_callV1 (pc := 5) dX3_goOnClosing_5 qX9_thingAt kX3_110 vX9_thingAt (by first | assumption | exact isI.gx (by assumption) | exact isI.gc (by assumption) | exact isW.gx (by assumption) | exact isW.gF (by assumption) | exact isW.gT (by assumption) (by omega) | exact isW.gS (by assumption) (by omega) | exact isW.gK (by assumption) (by omega) | exact isW.g1 (by assumption) | exact isW.g2 (by assumption) | exact isW.g3 (by assumption) | exact isI.gx (isW.i0 (by assumption)) | exact isI.gc (isW.i0 (by assumption)) | exact isI.gx (isW.i1 (by assumption)) | exact isI.gc (isW.i1 (by assumption)) | exact isI.gx (isW.i2 (by assumption)) | exact isI.gc (isW.i2 (by assumption)) | exact isI.gx (isW.i3 (by assumption)) | exact isI.gc (isW.i3 (by assumption)) | exact isI.gx (isW.i4 (by assumption)) | exact isI.gc (isW.i4 (by assumption)) | exact isI.gx (isW.i5 (by assumption)) | exact isI.gc (isW.i5 (by assumption)) | exact isR.gx (by assumption) | exact isRd.gx (by assumption) | exact isSp.gx (by assumption) | exact isI.gx (isR.i (by assumption)) | exact isI.gx (isRd.i (by assumption)) | exact isI.gc (isRd.i (by assumption)) | exact isI.gx (isSp.i (by assumption)) | exact isW.gx (isR.w (by assumption)) | exact isW.gF (isR.w (by assumption)) | fail "no such object") rfl rfl (Nat.le_of_ble_eq_true rfl) (cw_thingAt _ hW hc (i := (t : Int)) ⟨by omega, by omega⟩) (fun v_5 h_5 q_5 => ?_)
  obtain ⟨q1_5, rfl⟩ := q_5
  · obtain rfl := thAt_P (by omega) q1_5
    refine r_astore_n (pc := 8) dX3_goOnClosing_8 (Nat.le_of_ble_eq_true rfl) (by first | rfl | exact isRefV_rf _) ?_
    dsimp only [lsSt, List.set, mLs, mEnt]
    refine r_aload_n (pc := 9) dX3_goOnClosing_9 rfl (by first | rfl | exact isRefV_rf _) ?_
    refine r_ifnonnull (pc := 10) (tgt := 18) dX3_goOnClosing_10 (by decide) (by first | rfl | exact isRefV_rf _) (fun a_10 c_10 => ?_) (fun c_10 => by cases c_10)
    rw [Int.toNat_natCast]
    refine r_aload_n (pc := 18) dX3_goOnClosing_18 rfl (by first | rfl | exact isRefV_rf _) ?_
    refine r_getf (pc := 19) dX3_goOnClosing_19 fX3_121 (by first | assumption | exact isI.gx (by assumption) | exact isI.gc (by assumption) | exact isW.gx (by assumption) | exact isW.gF (by assumption) | exact isW.gT (by assumption) (by omega) | exact isW.gS (by assumption) (by omega) | exact isW.gK (by assumption) (by omega) | exact isW.g1 (by assumption) | exact isW.g2 (by assumption) | exact isW.g3 (by assumption) | exact isI.gx (isW.i0 (by assumption)) | exact isI.gc (isW.i0 (by assumption)) | exact isI.gx (isW.i1 (by assumption)) | exact isI.gc (isW.i1 (by assumption)) | exact isI.gx (isW.i2 (by assumption)) | exact isI.gc (isW.i2 (by assumption)) | exact isI.gx (isW.i3 (by assumption)) | exact isI.gc (isW.i3 (by assumption)) | exact isI.gx (isW.i4 (by assumption)) | exact isI.gc (isW.i4 (by assumption)) | exact isI.gx (isW.i5 (by assumption)) | exact isI.gc (isW.i5 (by assumption)) | exact isR.gx (by assumption) | exact isRd.gx (by assumption) | exact isSp.gx (by assumption) | exact isI.gx (isR.i (by assumption)) | exact isI.gx (isRd.i (by assumption)) | exact isI.gc (isRd.i (by assumption)) | exact isI.gx (isSp.i (by assumption)) | exact isW.gx (isR.w (by assumption)) | exact isW.gF (isR.w (by assumption)) | fail "no such object") (by rfl) ?_
    rw [hg, vrs]
    refine r_astore_n (pc := 22) dX3_goOnClosing_22 (Nat.le_of_ble_eq_true rfl) (by first | rfl | exact isRefV_rf _) ?_
    dsimp only [lsSt, List.set, mLs, mEnt]
    refine r_aload_n (pc := 23) dX3_goOnClosing_23 rfl (by first | rfl | exact isRefV_rf _) ?_
    refine r_ifnonnull (pc := 24) (tgt := 74) dX3_goOnClosing_24 (by decide) (by first | rfl | exact isRefV_rf _) (fun a_24 c_24 => ?_) (fun c_24 => by cases c_24)
    refine r_aload_n (pc := 74) dX3_goOnClosing_74 rfl (by first | rfl | exact isRefV_rf _) ?_
    have s_u := hs
    unfold stO at s_u
    refine r_aload_n (pc := 75) dX3_goOnClosing_75 rfl (by first | rfl | exact isRefV_rf _) ?_
    refine r_getf (pc := 76) dX3_goOnClosing_76 fX3_139 (by first | assumption | exact isI.gx (by assumption) | exact isI.gc (by assumption) | exact isW.gx (by assumption) | exact isW.gF (by assumption) | exact isW.gT (by assumption) (by omega) | exact isW.gS (by assumption) (by omega) | exact isW.gK (by assumption) (by omega) | exact isW.g1 (by assumption) | exact isW.g2 (by assumption) | exact isW.g3 (by assumption) | exact isI.gx (isW.i0 (by assumption)) | exact isI.gc (isW.i0 (by assumption)) | exact isI.gx (isW.i1 (by assumption)) | exact isI.gc (isW.i1 (by assumption)) | exact isI.gx (isW.i2 (by assumption)) | exact isI.gc (isW.i2 (by assumption)) | exact isI.gx (isW.i3 (by assumption)) | exact isI.gc (isW.i3 (by assumption)) | exact isI.gx (isW.i4 (by assumption)) | exact isI.gc (isW.i4 (by assumption)) | exact isI.gx (isW.i5 (by assumption)) | exact isI.gc (isW.i5 (by assumption)) | exact isR.gx (by assumption) | exact isRd.gx (by assumption) | exact isSp.gx (by assumption) | exact isI.gx (isR.i (by assumption)) | exact isI.gx (isRd.i (by assumption)) | exact isI.gc (isRd.i (by assumption)) | exact isI.gx (isSp.i (by assumption)) | exact isW.gx (isR.w (by assumption)) | exact isW.gF (isR.w (by assumption)) | fail "no such object") (by rfl) ?_
    refine rc_putT2 (pc := 79) dX3_goOnClosing_79 fX3_121 (by assumption) (by omega) (fun h_79 hW_79 hS_79 => ?_)
    have R_79 := hR.ofWr hS_79 hW_79
    have Q_79 := R_79.1
    refine r_aload_n (pc := 82) dX3_goOnClosing_82 rfl (by first | rfl | exact isRefV_rf _) ?_
    refine r_aload_n (pc := 83) dX3_goOnClosing_83 rfl (by first | rfl | exact isRefV_rf _) ?_
    refine r_aload_n (pc := 84) dX3_goOnClosing_84 rfl (by first | rfl | exact isRefV_rf _) ?_
    refine r_getf (pc := 85) dX3_goOnClosing_85 fX3_144 (by first | assumption | exact isI.gx (by assumption) | exact isI.gc (by assumption) | exact isW.gx (by assumption) | exact isW.gF (by assumption) | exact isW.gT (by assumption) (by omega) | exact isW.gS (by assumption) (by omega) | exact isW.gK (by assumption) (by omega) | exact isW.g1 (by assumption) | exact isW.g2 (by assumption) | exact isW.g3 (by assumption) | exact isI.gx (isW.i0 (by assumption)) | exact isI.gc (isW.i0 (by assumption)) | exact isI.gx (isW.i1 (by assumption)) | exact isI.gc (isW.i1 (by assumption)) | exact isI.gx (isW.i2 (by assumption)) | exact isI.gc (isW.i2 (by assumption)) | exact isI.gx (isW.i3 (by assumption)) | exact isI.gc (isW.i3 (by assumption)) | exact isI.gx (isW.i4 (by assumption)) | exact isI.gc (isW.i4 (by assumption)) | exact isI.gx (isW.i5 (by assumption)) | exact isI.gc (isW.i5 (by assumption)) | exact isR.gx (by assumption) | exact isRd.gx (by assumption) | exact isSp.gx (by assumption) | exact isI.gx (isR.i (by assumption)) | exact isI.gx (isRd.i (by assumption)) | exact isI.gc (isRd.i (by assumption)) | exact isI.gx (isSp.i (by assumption)) | exact isW.gx (isR.w (by assumption)) | exact isW.gF (isR.w (by assumption)) | fail "no such object") (by rfl) ?_
    refine r_callV2 (pc := 88) dX3_goOnClosing_88 qX3_perform kX3_147 vX3_perform (by first | assumption | exact isI.gx (by assumption) | exact isI.gc (by assumption) | exact isW.gx (by assumption) | exact isW.gF (by assumption) | exact isW.gT (by assumption) (by omega) | exact isW.gS (by assumption) (by omega) | exact isW.gK (by assumption) (by omega) | exact isW.g1 (by assumption) | exact isW.g2 (by assumption) | exact isW.g3 (by assumption) | exact isI.gx (isW.i0 (by assumption)) | exact isI.gc (isW.i0 (by assumption)) | exact isI.gx (isW.i1 (by assumption)) | exact isI.gc (isW.i1 (by assumption)) | exact isI.gx (isW.i2 (by assumption)) | exact isI.gc (isW.i2 (by assumption)) | exact isI.gx (isW.i3 (by assumption)) | exact isI.gc (isW.i3 (by assumption)) | exact isI.gx (isW.i4 (by assumption)) | exact isI.gc (isW.i4 (by assumption)) | exact isI.gx (isW.i5 (by assumption)) | exact isI.gc (isW.i5 (by assumption)) | exact isR.gx (by assumption) | exact isRd.gx (by assumption) | exact isSp.gx (by assumption) | exact isI.gx (isR.i (by assumption)) | exact isI.gx (isRd.i (by assumption)) | exact isI.gc (isRd.i (by assumption)) | exact isI.gx (isSp.i (by assumption)) | exact isW.gx (isR.w (by assumption)) | exact isW.gF (isR.w (by assumption)) | fail "no such object") rfl rfl (Nat.le_of_ble_eq_true rfl) (P _ R_79.1 R_79.2) (fun v_88 h_88 q_88 => ?_)
    obtain ⟨rfl, rfl⟩ := q_88
    have hR := R_79.1
    refine r_istore (pc := 91) dX3_goOnClosing_91 (Nat.le_of_ble_eq_true rfl) ?_
    dsimp only [lsSt, List.set, mLs, mEnt]
    refine r_iload (pc := 93) dX3_goOnClosing_93 rfl ?_
    refine rj_if_eq (pc := 95) (tgt := 120) dX3_goOnClosing_95 (by decide) (by first | exact b01_r | exact bz_r | omega | (constructor <;> omega) | apply_assumption | (apply atF_r; assumption) | fail "no range") (fun c_95 => ?_) (fun c_95 => ?_)
    · try simp only [b01_0, bz_0, Classical.not_not] at c_95
      refine r_return (pc := 120) dX3_goOnClosing_120 rfl ?_
      first | exact absurd c_95 hj0 | exact ⟨rfl, (R_79.1.ofWr (S_112.trans hS_117) hW_117).1, R_79.2.trans (R_79.1.ofWr (S_112.trans hS_117) hW_117).2⟩
    · try simp only [b01_0, bz_0, Classical.not_not] at c_95
      refine r_aload_n (pc := 98) dX3_goOnClosing_98 rfl (by first | rfl | exact isRefV_rf _) ?_
      refine r_getf (pc := 99) dX3_goOnClosing_99 fX3_12 (by first | assumption | exact isI.gx (by assumption) | exact isI.gc (by assumption) | exact isW.gx (by assumption) | exact isW.gF (by assumption) | exact isW.gT (by assumption) (by omega) | exact isW.gS (by assumption) (by omega) | exact isW.gK (by assumption) (by omega) | exact isW.g1 (by assumption) | exact isW.g2 (by assumption) | exact isW.g3 (by assumption) | exact isI.gx (isW.i0 (by assumption)) | exact isI.gc (isW.i0 (by assumption)) | exact isI.gx (isW.i1 (by assumption)) | exact isI.gc (isW.i1 (by assumption)) | exact isI.gx (isW.i2 (by assumption)) | exact isI.gc (isW.i2 (by assumption)) | exact isI.gx (isW.i3 (by assumption)) | exact isI.gc (isW.i3 (by assumption)) | exact isI.gx (isW.i4 (by assumption)) | exact isI.gc (isW.i4 (by assumption)) | exact isI.gx (isW.i5 (by assumption)) | exact isI.gc (isW.i5 (by assumption)) | exact isR.gx (by assumption) | exact isRd.gx (by assumption) | exact isSp.gx (by assumption) | exact isI.gx (isR.i (by assumption)) | exact isI.gx (isRd.i (by assumption)) | exact isI.gc (isRd.i (by assumption)) | exact isI.gx (isSp.i (by assumption)) | exact isW.gx (isR.w (by assumption)) | exact isW.gF (isR.w (by assumption)) | fail "no such object") (by rfl) ?_
      refine r_getf (pc := 102) dX3_goOnClosing_102 fX3_31 (by first | assumption | exact isI.gx (by assumption) | exact isI.gc (by assumption) | exact isW.gx (by assumption) | exact isW.gF (by assumption) | exact isW.gT (by assumption) (by omega) | exact isW.gS (by assumption) (by omega) | exact isW.gK (by assumption) (by omega) | exact isW.g1 (by assumption) | exact isW.g2 (by assumption) | exact isW.g3 (by assumption) | exact isI.gx (isW.i0 (by assumption)) | exact isI.gc (isW.i0 (by assumption)) | exact isI.gx (isW.i1 (by assumption)) | exact isI.gc (isW.i1 (by assumption)) | exact isI.gx (isW.i2 (by assumption)) | exact isI.gc (isW.i2 (by assumption)) | exact isI.gx (isW.i3 (by assumption)) | exact isI.gc (isW.i3 (by assumption)) | exact isI.gx (isW.i4 (by assumption)) | exact isI.gc (isW.i4 (by assumption)) | exact isI.gx (isW.i5 (by assumption)) | exact isI.gc (isW.i5 (by assumption)) | exact isR.gx (by assumption) | exact isRd.gx (by assumption) | exact isSp.gx (by assumption) | exact isI.gx (isR.i (by assumption)) | exact isI.gx (isRd.i (by assumption)) | exact isI.gc (isRd.i (by assumption)) | exact isI.gx (isSp.i (by assumption)) | exact isW.gx (isR.w (by assumption)) | exact isW.gF (isR.w (by assumption)) | fail "no such object") (by rfl) ?_
      refine r_iload (pc := 105) dX3_goOnClosing_105 rfl ?_
      refine r_iload_n (pc := 107) dX3_goOnClosing_107 rfl ?_
      refine r_aload_n (pc := 108) dX3_goOnClosing_108 rfl (by first | rfl | exact isRefV_rf _) ?_
      refine r_getf (pc := 109) dX3_goOnClosing_109 fX3_27 (by first | assumption | exact isI.gx (by assumption) | exact isI.gc (by assumption) | exact isW.gx (by assumption) | exact isW.gF (by assumption) | exact isW.gT (by assumption) (by omega) | exact isW.gS (by assumption) (by omega) | exact isW.gK (by assumption) (by omega) | exact isW.g1 (by assumption) | exact isW.g2 (by assumption) | exact isW.g3 (by assumption) | exact isI.gx (isW.i0 (by assumption)) | exact isI.gc (isW.i0 (by assumption)) | exact isI.gx (isW.i1 (by assumption)) | exact isI.gc (isW.i1 (by assumption)) | exact isI.gx (isW.i2 (by assumption)) | exact isI.gc (isW.i2 (by assumption)) | exact isI.gx (isW.i3 (by assumption)) | exact isI.gc (isW.i3 (by assumption)) | exact isI.gx (isW.i4 (by assumption)) | exact isI.gc (isW.i4 (by assumption)) | exact isI.gx (isW.i5 (by assumption)) | exact isI.gc (isW.i5 (by assumption)) | exact isR.gx (by assumption) | exact isRd.gx (by assumption) | exact isSp.gx (by assumption) | exact isI.gx (isR.i (by assumption)) | exact isI.gx (isRd.i (by assumption)) | exact isI.gc (isRd.i (by assumption)) | exact isI.gx (isSp.i (by assumption)) | exact isW.gx (isR.w (by assumption)) | exact isW.gF (isR.w (by assumption)) | fail "no such object") (by rfl) ?_
      refine r_callV3 (pc := 112) dX3_goOnClosing_112 qX0_gather kX3_151 vX0_gather (by first | assumption | exact isI.gx (by assumption) | exact isI.gc (by assumption) | exact isW.gx (by assumption) | exact isW.gF (by assumption) | exact isW.gT (by assumption) (by omega) | exact isW.gS (by assumption) (by omega) | exact isW.gK (by assumption) (by omega) | exact isW.g1 (by assumption) | exact isW.g2 (by assumption) | exact isW.g3 (by assumption) | exact isI.gx (isW.i0 (by assumption)) | exact isI.gc (isW.i0 (by assumption)) | exact isI.gx (isW.i1 (by assumption)) | exact isI.gc (isW.i1 (by assumption)) | exact isI.gx (isW.i2 (by assumption)) | exact isI.gc (isW.i2 (by assumption)) | exact isI.gx (isW.i3 (by assumption)) | exact isI.gc (isW.i3 (by assumption)) | exact isI.gx (isW.i4 (by assumption)) | exact isI.gc (isW.i4 (by assumption)) | exact isI.gx (isW.i5 (by assumption)) | exact isI.gc (isW.i5 (by assumption)) | exact isR.gx (by assumption) | exact isRd.gx (by assumption) | exact isSp.gx (by assumption) | exact isI.gx (isR.i (by assumption)) | exact isI.gx (isRd.i (by assumption)) | exact isI.gc (isRd.i (by assumption)) | exact isI.gx (isSp.i (by assumption)) | exact isW.gx (isR.w (by assumption)) | exact isW.gF (isR.w (by assumption)) | fail "no such object") rfl rfl (Nat.le_of_ble_eq_true rfl) (cq_gather _ hW_79 hc h11 h12 h13 hcapF (a := j) (t := (t : Int)) (b := b)) (fun v_112 h_112 q_112 => ?_)
      obtain ⟨rfl, W_112, S_112⟩ := q_112
      refine r_aload_n (pc := 115) dX3_goOnClosing_115 rfl (by first | rfl | exact isRefV_rf _) ?_
      refine r_null (pc := 116) dX3_goOnClosing_116 ?_
      refine rc_putT2 (r := none) (pc := 117) dX3_goOnClosing_117 fX3_121 W_112 (by omega) (fun h_117 hW_117 hS_117 => ?_)
      refine r_return (pc := 120) dX3_goOnClosing_120 rfl ?_
      first | exact absurd c_95 hj0 | exact ⟨rfl, (R_79.1.ofWr (S_112.trans hS_117) hW_117).1, R_79.2.trans (R_79.1.ofWr (S_112.trans hS_117) hW_117).2⟩
end mg_9b
section mg_9c
/-! ===== the class: one round of its work: scopes ===== -/
set_option maxHeartbeats 4000000 in
set_option maxRecDepth 100000 in
theorem cr_shutT {G : mG} {l : Launch} (d : Nat) {h : mH} {r : Nat} {b z : Int} {f : Nat → Int} {c : Nat → Int} {C : Nat → Nat → Int} {nm : Nat → Int64} {g : Nat → Option Nat} (hR : isR h r b z f c C nm g) (hc : ∀ q, InR (c q)) (hz0 : 0 ≤ z ∧ z < 160) {u : Nat} (hu : (u : Int) < c 1) (hu2 : u < 60) {Z : Nat} (hZ : c 10 = (Z : Int)) (hcapZ : Z ≤ 150) (hC : ∀ q, InR (C 2 q)) {t : Nat} (ht : (t : Int) < c 0) (ht2 : t < 90) (he : ltL c (C 2) (u : Int) Z = (t : Int)) : RUNM G l (d + 3) mX3_goOnShutting [.ref r, .int (J (u : Int))] h (fun v h' => v = none ∧ isR h' r b (z + 1) (updI f z.toNat (t : Int)) (updI c (32 + 3 * t) 2) C nm (btG g t) ∧ Same (rBlk r) h h') := by
  refine RUNM.of (by decide +kernel) (Nat.le_of_ble_eq_true rfl) ?_
  have hW := hR.w
  refine r_aload_n (pc := 0) dX3_goOnShutting_0 rfl (by first | rfl | exact isRefV_rf _) ?_
  refine r_getf (pc := 1) dX3_goOnShutting_1 fX3_12 (by first | assumption | exact isI.gx (by assumption) | exact isI.gc (by assumption) | exact isW.gx (by assumption) | exact isW.gF (by assumption) | exact isW.gT (by assumption) (by omega) | exact isW.gS (by assumption) (by omega) | exact isW.gK (by assumption) (by omega) | exact isW.g1 (by assumption) | exact isW.g2 (by assumption) | exact isW.g3 (by assumption) | exact isI.gx (isW.i0 (by assumption)) | exact isI.gc (isW.i0 (by assumption)) | exact isI.gx (isW.i1 (by assumption)) | exact isI.gc (isW.i1 (by assumption)) | exact isI.gx (isW.i2 (by assumption)) | exact isI.gc (isW.i2 (by assumption)) | exact isI.gx (isW.i3 (by assumption)) | exact isI.gc (isW.i3 (by assumption)) | exact isI.gx (isW.i4 (by assumption)) | exact isI.gc (isW.i4 (by assumption)) | exact isI.gx (isW.i5 (by assumption)) | exact isI.gc (isW.i5 (by assumption)) | exact isR.gx (by assumption) | exact isRd.gx (by assumption) | exact isSp.gx (by assumption) | exact isI.gx (isR.i (by assumption)) | exact isI.gx (isRd.i (by assumption)) | exact isI.gc (isRd.i (by assumption)) | exact isI.gx (isSp.i (by assumption)) | exact isW.gx (isR.w (by assumption)) | exact isW.gF (isR.w (by assumption)) | fail "no such object") (by rfl) ?_
  refine r_iload_n (pc := 4) dX3_goOnShutting_4 rfl ?_
  refine r_callV1 (pc := 5) dX3_goOnShutting_5 qX9_lastToEnd kX3_155 vX9_lastToEnd (by first | assumption | exact isI.gx (by assumption) | exact isI.gc (by assumption) | exact isW.gx (by assumption) | exact isW.gF (by assumption) | exact isW.gT (by assumption) (by omega) | exact isW.gS (by assumption) (by omega) | exact isW.gK (by assumption) (by omega) | exact isW.g1 (by assumption) | exact isW.g2 (by assumption) | exact isW.g3 (by assumption) | exact isI.gx (isW.i0 (by assumption)) | exact isI.gc (isW.i0 (by assumption)) | exact isI.gx (isW.i1 (by assumption)) | exact isI.gc (isW.i1 (by assumption)) | exact isI.gx (isW.i2 (by assumption)) | exact isI.gc (isW.i2 (by assumption)) | exact isI.gx (isW.i3 (by assumption)) | exact isI.gc (isW.i3 (by assumption)) | exact isI.gx (isW.i4 (by assumption)) | exact isI.gc (isW.i4 (by assumption)) | exact isI.gx (isW.i5 (by assumption)) | exact isI.gc (isW.i5 (by assumption)) | exact isR.gx (by assumption) | exact isRd.gx (by assumption) | exact isSp.gx (by assumption) | exact isI.gx (isR.i (by assumption)) | exact isI.gx (isRd.i (by assumption)) | exact isI.gc (isRd.i (by assumption)) | exact isI.gx (isSp.i (by assumption)) | exact isW.gx (isR.w (by assumption)) | exact isW.gF (isR.w (by assumption)) | fail "no such object") rfl rfl (Nat.le_of_ble_eq_true rfl) (cq_lastToEnd _ hR.w hc hZ hcapZ hC (i := (u : Int)) ⟨by omega, by omega⟩) (fun v_5 h_5 q_5 => ?_)
  obtain ⟨rfl, rfl⟩ := q_5
  rw [he]
  refine r_istore_n (pc := 8) dX3_goOnShutting_8 (Nat.le_of_ble_eq_true rfl) ?_
  dsimp only [lsSt, List.set, mLs, mEnt]
  refine r_iload_n (pc := 9) dX3_goOnShutting_9 rfl ?_
  refine rj_if_lt (pc := 10) (tgt := 19) dX3_goOnShutting_10 (by decide) (by first | exact b01_r | exact bz_r | omega | (constructor <;> omega) | apply_assumption | (apply atF_r; assumption) | fail "no range") (fun c_10 => ?_) (fun c_10 => ?_)
  · exfalso; omega
  · refine r_aload_n (pc := 13) dX3_goOnShutting_13 rfl (by first | rfl | exact isRefV_rf _) ?_
    refine r_iload_n (pc := 14) dX3_goOnShutting_14 rfl ?_
    refine r_callV1 (pc := 15) dX3_goOnShutting_15 qX3_beginToEnd kX3_40 vX3_beginToEnd (by first | assumption | exact isI.gx (by assumption) | exact isI.gc (by assumption) | exact isW.gx (by assumption) | exact isW.gF (by assumption) | exact isW.gT (by assumption) (by omega) | exact isW.gS (by assumption) (by omega) | exact isW.gK (by assumption) (by omega) | exact isW.g1 (by assumption) | exact isW.g2 (by assumption) | exact isW.g3 (by assumption) | exact isI.gx (isW.i0 (by assumption)) | exact isI.gc (isW.i0 (by assumption)) | exact isI.gx (isW.i1 (by assumption)) | exact isI.gc (isW.i1 (by assumption)) | exact isI.gx (isW.i2 (by assumption)) | exact isI.gc (isW.i2 (by assumption)) | exact isI.gx (isW.i3 (by assumption)) | exact isI.gc (isW.i3 (by assumption)) | exact isI.gx (isW.i4 (by assumption)) | exact isI.gc (isW.i4 (by assumption)) | exact isI.gx (isW.i5 (by assumption)) | exact isI.gc (isW.i5 (by assumption)) | exact isR.gx (by assumption) | exact isRd.gx (by assumption) | exact isSp.gx (by assumption) | exact isI.gx (isR.i (by assumption)) | exact isI.gx (isRd.i (by assumption)) | exact isI.gc (isRd.i (by assumption)) | exact isI.gx (isSp.i (by assumption)) | exact isW.gx (isR.w (by assumption)) | exact isW.gF (isR.w (by assumption)) | fail "no such object") rfl rfl (Nat.le_of_ble_eq_true rfl) (cr_beginToEndT _ hR hc hz0 ht ht2) (fun v_15 h_15 q_15 => ?_)
    obtain ⟨rfl, R_15, S_15⟩ := q_15
    refine r_return (pc := 18) dX3_goOnShutting_18 rfl ?_
    exact ⟨rfl, R_15, S_15⟩
set_option maxHeartbeats 4000000 in
set_option maxRecDepth 100000 in
theorem cr_shutS {G : mG} {l : Launch} (d : Nat) {h : mH} {r : Nat} {b z : Int} {f : Nat → Int} {c : Nat → Int} {C : Nat → Nat → Int} {nm : Nat → Int64} {g : Nat → Option Nat} (hR : isR h r b z f c C nm g) (hc : ∀ q, InR (c q)) (hz0 : 0 ≤ z ∧ z < 160) {u : Nat} (hu : (u : Int) < c 1) (hu2 : u < 60) {Z : Nat} (hZ : c 10 = (Z : Int)) (hcapZ : Z ≤ 150) (hC : ∀ q, InR (C 2 q)) {q : Nat} (hq : (q : Int) < c 1) (hq2 : q < 60) (he : ltL c (C 2) (u : Int) Z = 100 + (q : Int)) : RUNM G l (d + 3) mX3_goOnShutting [.ref r, .int (J (u : Int))] h (fun v h' => v = none ∧ isR h' r b (z + 1) (updI f z.toNat (100 + (q : Int))) (updI c (304 + 3 * q) 2) C nm g ∧ Same (rBlk r) h h') := by
  refine RUNM.of (by decide +kernel) (Nat.le_of_ble_eq_true rfl) ?_
  have hW := hR.w
  refine r_aload_n (pc := 0) dX3_goOnShutting_0 rfl (by first | rfl | exact isRefV_rf _) ?_
  refine r_getf (pc := 1) dX3_goOnShutting_1 fX3_12 (by first | assumption | exact isI.gx (by assumption) | exact isI.gc (by assumption) | exact isW.gx (by assumption) | exact isW.gF (by assumption) | exact isW.gT (by assumption) (by omega) | exact isW.gS (by assumption) (by omega) | exact isW.gK (by assumption) (by omega) | exact isW.g1 (by assumption) | exact isW.g2 (by assumption) | exact isW.g3 (by assumption) | exact isI.gx (isW.i0 (by assumption)) | exact isI.gc (isW.i0 (by assumption)) | exact isI.gx (isW.i1 (by assumption)) | exact isI.gc (isW.i1 (by assumption)) | exact isI.gx (isW.i2 (by assumption)) | exact isI.gc (isW.i2 (by assumption)) | exact isI.gx (isW.i3 (by assumption)) | exact isI.gc (isW.i3 (by assumption)) | exact isI.gx (isW.i4 (by assumption)) | exact isI.gc (isW.i4 (by assumption)) | exact isI.gx (isW.i5 (by assumption)) | exact isI.gc (isW.i5 (by assumption)) | exact isR.gx (by assumption) | exact isRd.gx (by assumption) | exact isSp.gx (by assumption) | exact isI.gx (isR.i (by assumption)) | exact isI.gx (isRd.i (by assumption)) | exact isI.gc (isRd.i (by assumption)) | exact isI.gx (isSp.i (by assumption)) | exact isW.gx (isR.w (by assumption)) | exact isW.gF (isR.w (by assumption)) | fail "no such object") (by rfl) ?_
  refine r_iload_n (pc := 4) dX3_goOnShutting_4 rfl ?_
  refine r_callV1 (pc := 5) dX3_goOnShutting_5 qX9_lastToEnd kX3_155 vX9_lastToEnd (by first | assumption | exact isI.gx (by assumption) | exact isI.gc (by assumption) | exact isW.gx (by assumption) | exact isW.gF (by assumption) | exact isW.gT (by assumption) (by omega) | exact isW.gS (by assumption) (by omega) | exact isW.gK (by assumption) (by omega) | exact isW.g1 (by assumption) | exact isW.g2 (by assumption) | exact isW.g3 (by assumption) | exact isI.gx (isW.i0 (by assumption)) | exact isI.gc (isW.i0 (by assumption)) | exact isI.gx (isW.i1 (by assumption)) | exact isI.gc (isW.i1 (by assumption)) | exact isI.gx (isW.i2 (by assumption)) | exact isI.gc (isW.i2 (by assumption)) | exact isI.gx (isW.i3 (by assumption)) | exact isI.gc (isW.i3 (by assumption)) | exact isI.gx (isW.i4 (by assumption)) | exact isI.gc (isW.i4 (by assumption)) | exact isI.gx (isW.i5 (by assumption)) | exact isI.gc (isW.i5 (by assumption)) | exact isR.gx (by assumption) | exact isRd.gx (by assumption) | exact isSp.gx (by assumption) | exact isI.gx (isR.i (by assumption)) | exact isI.gx (isRd.i (by assumption)) | exact isI.gc (isRd.i (by assumption)) | exact isI.gx (isSp.i (by assumption)) | exact isW.gx (isR.w (by assumption)) | exact isW.gF (isR.w (by assumption)) | fail "no such object") rfl rfl (Nat.le_of_ble_eq_true rfl) (cq_lastToEnd _ hR.w hc hZ hcapZ hC (i := (u : Int)) ⟨by omega, by omega⟩) (fun v_5 h_5 q_5 => ?_)
  obtain ⟨rfl, rfl⟩ := q_5
  rw [he]
  refine r_istore_n (pc := 8) dX3_goOnShutting_8 (Nat.le_of_ble_eq_true rfl) ?_
  dsimp only [lsSt, List.set, mLs, mEnt]
  refine r_iload_n (pc := 9) dX3_goOnShutting_9 rfl ?_
  refine rj_if_lt (pc := 10) (tgt := 19) dX3_goOnShutting_10 (by decide) (by first | exact b01_r | exact bz_r | omega | (constructor <;> omega) | apply_assumption | (apply atF_r; assumption) | fail "no range") (fun c_10 => ?_) (fun c_10 => ?_)
  · exfalso; omega
  · refine r_aload_n (pc := 13) dX3_goOnShutting_13 rfl (by first | rfl | exact isRefV_rf _) ?_
    refine r_iload_n (pc := 14) dX3_goOnShutting_14 rfl ?_
    refine r_callV1 (pc := 15) dX3_goOnShutting_15 qX3_beginToEnd kX3_40 vX3_beginToEnd (by first | assumption | exact isI.gx (by assumption) | exact isI.gc (by assumption) | exact isW.gx (by assumption) | exact isW.gF (by assumption) | exact isW.gT (by assumption) (by omega) | exact isW.gS (by assumption) (by omega) | exact isW.gK (by assumption) (by omega) | exact isW.g1 (by assumption) | exact isW.g2 (by assumption) | exact isW.g3 (by assumption) | exact isI.gx (isW.i0 (by assumption)) | exact isI.gc (isW.i0 (by assumption)) | exact isI.gx (isW.i1 (by assumption)) | exact isI.gc (isW.i1 (by assumption)) | exact isI.gx (isW.i2 (by assumption)) | exact isI.gc (isW.i2 (by assumption)) | exact isI.gx (isW.i3 (by assumption)) | exact isI.gc (isW.i3 (by assumption)) | exact isI.gx (isW.i4 (by assumption)) | exact isI.gc (isW.i4 (by assumption)) | exact isI.gx (isW.i5 (by assumption)) | exact isI.gc (isW.i5 (by assumption)) | exact isR.gx (by assumption) | exact isRd.gx (by assumption) | exact isSp.gx (by assumption) | exact isI.gx (isR.i (by assumption)) | exact isI.gx (isRd.i (by assumption)) | exact isI.gc (isRd.i (by assumption)) | exact isI.gx (isSp.i (by assumption)) | exact isW.gx (isR.w (by assumption)) | exact isW.gF (isR.w (by assumption)) | fail "no such object") rfl rfl (Nat.le_of_ble_eq_true rfl) (cr_beginS _ hR hc hz0 hq hq2) (fun v_15 h_15 q_15 => ?_)
    obtain ⟨rfl, R_15, S_15⟩ := q_15
    refine r_return (pc := 18) dX3_goOnShutting_18 rfl ?_
    exact ⟨rfl, R_15, S_15⟩
def gsC (c : Nat → Int) (u : Nat) (k : Int) : Nat → Int := updI (updI c (304 + 3 * u) (if u = 0 then 0 else 1)) 10 k
set_option maxHeartbeats 4000000 in
set_option maxRecDepth 100000 in
theorem cr_shutNow {G : mG} {l : Launch} (d : Nat) {h : mH} {r : Nat} {b z : Int} {f : Nat → Int} {c : Nat → Int} {C : Nat → Nat → Int} {nm : Nat → Int64} {g : Nat → Option Nat} (hR : isR h r b z f c C nm g) (hc : ∀ q, InR (c q)) {u : Nat} (hu : (u : Int) < c 1) (hu2 : u < 60) {Z : Nat} (hZ : c 10 = (Z : Int)) (hcapZ : Z ≤ 150) (hC : ∀ q, InR (C 2 q)) (hz : InR z) (hz0 : 0 < z) (he : ltL c (C 2) (u : Int) Z = -1) : RUNM G l (d + 3) mX3_goOnShutting [.ref r, .int (J (u : Int))] h (fun v h' => v = none ∧ isR h' r b (z - 1) f (gsC c u (cnt (notB (100 + (u : Int)) (C 2)) Z)) (updC C 2 (drA (100 + (u : Int)) (C 2) Z)) nm g ∧ Same (rBlk r) h h') := by
  refine RUNM.of (by decide +kernel) (Nat.le_of_ble_eq_true rfl) ?_
  have hW := hR.w
  refine r_aload_n (pc := 0) dX3_goOnShutting_0 rfl (by first | rfl | exact isRefV_rf _) ?_
  refine r_getf (pc := 1) dX3_goOnShutting_1 fX3_12 (by first | assumption | exact isI.gx (by assumption) | exact isI.gc (by assumption) | exact isW.gx (by assumption) | exact isW.gF (by assumption) | exact isW.gT (by assumption) (by omega) | exact isW.gS (by assumption) (by omega) | exact isW.gK (by assumption) (by omega) | exact isW.g1 (by assumption) | exact isW.g2 (by assumption) | exact isW.g3 (by assumption) | exact isI.gx (isW.i0 (by assumption)) | exact isI.gc (isW.i0 (by assumption)) | exact isI.gx (isW.i1 (by assumption)) | exact isI.gc (isW.i1 (by assumption)) | exact isI.gx (isW.i2 (by assumption)) | exact isI.gc (isW.i2 (by assumption)) | exact isI.gx (isW.i3 (by assumption)) | exact isI.gc (isW.i3 (by assumption)) | exact isI.gx (isW.i4 (by assumption)) | exact isI.gc (isW.i4 (by assumption)) | exact isI.gx (isW.i5 (by assumption)) | exact isI.gc (isW.i5 (by assumption)) | exact isR.gx (by assumption) | exact isRd.gx (by assumption) | exact isSp.gx (by assumption) | exact isI.gx (isR.i (by assumption)) | exact isI.gx (isRd.i (by assumption)) | exact isI.gc (isRd.i (by assumption)) | exact isI.gx (isSp.i (by assumption)) | exact isW.gx (isR.w (by assumption)) | exact isW.gF (isR.w (by assumption)) | fail "no such object") (by rfl) ?_
  refine r_iload_n (pc := 4) dX3_goOnShutting_4 rfl ?_
  refine r_callV1 (pc := 5) dX3_goOnShutting_5 qX9_lastToEnd kX3_155 vX9_lastToEnd (by first | assumption | exact isI.gx (by assumption) | exact isI.gc (by assumption) | exact isW.gx (by assumption) | exact isW.gF (by assumption) | exact isW.gT (by assumption) (by omega) | exact isW.gS (by assumption) (by omega) | exact isW.gK (by assumption) (by omega) | exact isW.g1 (by assumption) | exact isW.g2 (by assumption) | exact isW.g3 (by assumption) | exact isI.gx (isW.i0 (by assumption)) | exact isI.gc (isW.i0 (by assumption)) | exact isI.gx (isW.i1 (by assumption)) | exact isI.gc (isW.i1 (by assumption)) | exact isI.gx (isW.i2 (by assumption)) | exact isI.gc (isW.i2 (by assumption)) | exact isI.gx (isW.i3 (by assumption)) | exact isI.gc (isW.i3 (by assumption)) | exact isI.gx (isW.i4 (by assumption)) | exact isI.gc (isW.i4 (by assumption)) | exact isI.gx (isW.i5 (by assumption)) | exact isI.gc (isW.i5 (by assumption)) | exact isR.gx (by assumption) | exact isRd.gx (by assumption) | exact isSp.gx (by assumption) | exact isI.gx (isR.i (by assumption)) | exact isI.gx (isRd.i (by assumption)) | exact isI.gc (isRd.i (by assumption)) | exact isI.gx (isSp.i (by assumption)) | exact isW.gx (isR.w (by assumption)) | exact isW.gF (isR.w (by assumption)) | fail "no such object") rfl rfl (Nat.le_of_ble_eq_true rfl) (cq_lastToEnd _ hR.w hc hZ hcapZ hC (i := (u : Int)) ⟨by omega, by omega⟩) (fun v_5 h_5 q_5 => ?_)
  obtain ⟨rfl, rfl⟩ := q_5
  rw [he]
  refine r_istore_n (pc := 8) dX3_goOnShutting_8 (Nat.le_of_ble_eq_true rfl) ?_
  dsimp only [lsSt, List.set, mLs, mEnt]
  refine r_iload_n (pc := 9) dX3_goOnShutting_9 rfl ?_
  refine rj_if_lt (pc := 10) (tgt := 19) dX3_goOnShutting_10 (by decide) (by first | exact b01_r | exact bz_r | omega | (constructor <;> omega) | apply_assumption | (apply atF_r; assumption) | fail "no range") (fun c_10 => ?_) (fun c_10 => ?_)
  · refine r_aload_n (pc := 19) dX3_goOnShutting_19 rfl (by first | rfl | exact isRefV_rf _) ?_
    refine r_getf (pc := 20) dX3_goOnShutting_20 fX3_12 (by first | assumption | exact isI.gx (by assumption) | exact isI.gc (by assumption) | exact isW.gx (by assumption) | exact isW.gF (by assumption) | exact isW.gT (by assumption) (by omega) | exact isW.gS (by assumption) (by omega) | exact isW.gK (by assumption) (by omega) | exact isW.g1 (by assumption) | exact isW.g2 (by assumption) | exact isW.g3 (by assumption) | exact isI.gx (isW.i0 (by assumption)) | exact isI.gc (isW.i0 (by assumption)) | exact isI.gx (isW.i1 (by assumption)) | exact isI.gc (isW.i1 (by assumption)) | exact isI.gx (isW.i2 (by assumption)) | exact isI.gc (isW.i2 (by assumption)) | exact isI.gx (isW.i3 (by assumption)) | exact isI.gc (isW.i3 (by assumption)) | exact isI.gx (isW.i4 (by assumption)) | exact isI.gc (isW.i4 (by assumption)) | exact isI.gx (isW.i5 (by assumption)) | exact isI.gc (isW.i5 (by assumption)) | exact isR.gx (by assumption) | exact isRd.gx (by assumption) | exact isSp.gx (by assumption) | exact isI.gx (isR.i (by assumption)) | exact isI.gx (isRd.i (by assumption)) | exact isI.gc (isRd.i (by assumption)) | exact isI.gx (isSp.i (by assumption)) | exact isW.gx (isR.w (by assumption)) | exact isW.gF (isR.w (by assumption)) | fail "no such object") (by rfl) ?_
    refine r_iload_n (pc := 23) dX3_goOnShutting_23 rfl ?_
    refine r_callV1 (pc := 24) dX3_goOnShutting_24 qX9_scopeAt kX3_103 vX9_scopeAt (by first | assumption | exact isI.gx (by assumption) | exact isI.gc (by assumption) | exact isW.gx (by assumption) | exact isW.gF (by assumption) | exact isW.gT (by assumption) (by omega) | exact isW.gS (by assumption) (by omega) | exact isW.gK (by assumption) (by omega) | exact isW.g1 (by assumption) | exact isW.g2 (by assumption) | exact isW.g3 (by assumption) | exact isI.gx (isW.i0 (by assumption)) | exact isI.gc (isW.i0 (by assumption)) | exact isI.gx (isW.i1 (by assumption)) | exact isI.gc (isW.i1 (by assumption)) | exact isI.gx (isW.i2 (by assumption)) | exact isI.gc (isW.i2 (by assumption)) | exact isI.gx (isW.i3 (by assumption)) | exact isI.gc (isW.i3 (by assumption)) | exact isI.gx (isW.i4 (by assumption)) | exact isI.gc (isW.i4 (by assumption)) | exact isI.gx (isW.i5 (by assumption)) | exact isI.gc (isW.i5 (by assumption)) | exact isR.gx (by assumption) | exact isRd.gx (by assumption) | exact isSp.gx (by assumption) | exact isI.gx (isR.i (by assumption)) | exact isI.gx (isRd.i (by assumption)) | exact isI.gc (isRd.i (by assumption)) | exact isI.gx (isSp.i (by assumption)) | exact isW.gx (isR.w (by assumption)) | exact isW.gF (isR.w (by assumption)) | fail "no such object") rfl rfl (Nat.le_of_ble_eq_true rfl) (cw_scopeAt _ hR.w hc (i := (u : Int)) ⟨by omega, by omega⟩) (fun v_24 h_24 q_24 => ?_)
    obtain ⟨q1_24, rfl⟩ := q_24
    · obtain rfl := scAt_P (by omega) q1_24
      refine r_astore_n (pc := 27) dX3_goOnShutting_27 (Nat.le_of_ble_eq_true rfl) (by first | rfl | exact isRefV_rf _) ?_
      dsimp only [lsSt, List.set, mLs, mEnt]
      rw [Int.toNat_natCast]
      refine r_aload_n (pc := 28) dX3_goOnShutting_28 rfl (by first | rfl | exact isRefV_rf _) ?_
      refine r_ifnull (pc := 29) (tgt := 59) dX3_goOnShutting_29 (by decide) (by first | rfl | exact isRefV_rf _) (fun c_29 => by cases c_29) (fun a_29 c_29 => ?_)
      refine r_aload_n (pc := 32) dX3_goOnShutting_32 rfl (by first | rfl | exact isRefV_rf _) ?_
      refine r_iload_n (pc := 33) dX3_goOnShutting_33 rfl ?_
      refine rj_if_ne (pc := 34) (tgt := 41) dX3_goOnShutting_34 (by decide) (by first | exact b01_r | exact bz_r | omega | (constructor <;> omega) | apply_assumption | (apply atF_r; assumption) | fail "no range") (fun c_34 => ?_) (fun c_34 => ?_)
      · try simp only [b01_0, bz_0, Classical.not_not] at c_34
        refine rj_iconst (pc := 41) dX3_goOnShutting_41 ?_
        refine rc_putS0 (pc := 42) dX3_goOnShutting_42 fX3_107 (by assumption) (by omega) (fun h_42 hW_42 hS_42 => ?_)
        have Q_42 := (hR.ofWr hS_42 hW_42).1
        refine r_aload_n (pc := 45) dX3_goOnShutting_45 rfl (by first | rfl | exact isRefV_rf _) ?_
        refine r_getf (pc := 46) dX3_goOnShutting_46 fX3_12 (by first | assumption | exact isI.gx (by assumption) | exact isI.gc (by assumption) | exact isW.gx (by assumption) | exact isW.gF (by assumption) | exact isW.gT (by assumption) (by omega) | exact isW.gS (by assumption) (by omega) | exact isW.gK (by assumption) (by omega) | exact isW.g1 (by assumption) | exact isW.g2 (by assumption) | exact isW.g3 (by assumption) | exact isI.gx (isW.i0 (by assumption)) | exact isI.gc (isW.i0 (by assumption)) | exact isI.gx (isW.i1 (by assumption)) | exact isI.gc (isW.i1 (by assumption)) | exact isI.gx (isW.i2 (by assumption)) | exact isI.gc (isW.i2 (by assumption)) | exact isI.gx (isW.i3 (by assumption)) | exact isI.gc (isW.i3 (by assumption)) | exact isI.gx (isW.i4 (by assumption)) | exact isI.gc (isW.i4 (by assumption)) | exact isI.gx (isW.i5 (by assumption)) | exact isI.gc (isW.i5 (by assumption)) | exact isR.gx (by assumption) | exact isRd.gx (by assumption) | exact isSp.gx (by assumption) | exact isI.gx (isR.i (by assumption)) | exact isI.gx (isRd.i (by assumption)) | exact isI.gc (isRd.i (by assumption)) | exact isI.gx (isSp.i (by assumption)) | exact isW.gx (isR.w (by assumption)) | exact isW.gF (isR.w (by assumption)) | fail "no such object") (by rfl) ?_
        refine r_getf (pc := 49) dX3_goOnShutting_49 fX3_133 (by first | assumption | exact isI.gx (by assumption) | exact isI.gc (by assumption) | exact isW.gx (by assumption) | exact isW.gF (by assumption) | exact isW.gT (by assumption) (by omega) | exact isW.gS (by assumption) (by omega) | exact isW.gK (by assumption) (by omega) | exact isW.g1 (by assumption) | exact isW.g2 (by assumption) | exact isW.g3 (by assumption) | exact isI.gx (isW.i0 (by assumption)) | exact isI.gc (isW.i0 (by assumption)) | exact isI.gx (isW.i1 (by assumption)) | exact isI.gc (isW.i1 (by assumption)) | exact isI.gx (isW.i2 (by assumption)) | exact isI.gc (isW.i2 (by assumption)) | exact isI.gx (isW.i3 (by assumption)) | exact isI.gc (isW.i3 (by assumption)) | exact isI.gx (isW.i4 (by assumption)) | exact isI.gc (isW.i4 (by assumption)) | exact isI.gx (isW.i5 (by assumption)) | exact isI.gc (isW.i5 (by assumption)) | exact isR.gx (by assumption) | exact isRd.gx (by assumption) | exact isSp.gx (by assumption) | exact isI.gx (isR.i (by assumption)) | exact isI.gx (isRd.i (by assumption)) | exact isI.gc (isRd.i (by assumption)) | exact isI.gx (isSp.i (by assumption)) | exact isW.gx (isR.w (by assumption)) | exact isW.gF (isR.w (by assumption)) | fail "no such object") (by rfl) ?_
        refine rj_bipush (pc := 52) dX3_goOnShutting_52 (by decide +kernel) ?_
        refine r_iload_n (pc := 54) dX3_goOnShutting_54 rfl ?_
        refine rj_iadd (pc := 55) dX3_goOnShutting_55 ?_
        have i2 := hW_42.i2
        have z2 : updI c (304 + 3 * u) 1 10 = (Z : Int) := (updI_n (by omega)).trans hZ
        rw [z2] at i2
        refine r_callV1 (pc := 56) dX3_goOnShutting_56 qX1_drop kX3_136 vX1_drop (by first | assumption | exact isI.gx (by assumption) | exact isI.gc (by assumption) | exact isW.gx (by assumption) | exact isW.gF (by assumption) | exact isW.gT (by assumption) (by omega) | exact isW.gS (by assumption) (by omega) | exact isW.gK (by assumption) (by omega) | exact isW.g1 (by assumption) | exact isW.g2 (by assumption) | exact isW.g3 (by assumption) | exact isI.gx (isW.i0 (by assumption)) | exact isI.gc (isW.i0 (by assumption)) | exact isI.gx (isW.i1 (by assumption)) | exact isI.gc (isW.i1 (by assumption)) | exact isI.gx (isW.i2 (by assumption)) | exact isI.gc (isW.i2 (by assumption)) | exact isI.gx (isW.i3 (by assumption)) | exact isI.gc (isW.i3 (by assumption)) | exact isI.gx (isW.i4 (by assumption)) | exact isI.gc (isW.i4 (by assumption)) | exact isI.gx (isW.i5 (by assumption)) | exact isI.gc (isW.i5 (by assumption)) | exact isR.gx (by assumption) | exact isRd.gx (by assumption) | exact isSp.gx (by assumption) | exact isI.gx (isR.i (by assumption)) | exact isI.gx (isRd.i (by assumption)) | exact isI.gc (isRd.i (by assumption)) | exact isI.gx (isSp.i (by assumption)) | exact isW.gx (isR.w (by assumption)) | exact isW.gF (isR.w (by assumption)) | fail "no such object") rfl rfl (Nat.le_of_ble_eq_true rfl) (ci_drop _ i2 (x := 100 + (u : Int)) ⟨by omega, by omega⟩ (by decide) hcapZ hC) (fun v_56 h_56 q_56 => ?_)
        obtain ⟨rfl, I_56, S_56⟩ := q_56
        have W_56 := hW_42.ofI (j := 2) (by decide) S_56 I_56
        have T_56 := S_56.mono (P' := wBlk (rA r 1)) (fun b hb => iBlk_wBlk (j := 2) hb)
        have R_56 := hR.ofWr (hS_42.trans T_56) W_56
        have rk := cnt_r (notB (100 + (u : Int)) (C 2)) Z
        have hcc : ∀ q, InR (updI (updI c (304 + 3 * u) 1) (8 + 2) (cnt (notB (100 + (u : Int)) (C 2)) Z) q) := updI_R (updI_R hc (by decide)) ⟨by omega, by omega⟩
        have Q_56 := R_56.1
        refine r_aload_n (pc := 59) dX3_goOnShutting_59 rfl (by first | rfl | exact isRefV_rf _) ?_
        refine r_callV0 (pc := 60) dX3_goOnShutting_60 qX3_leave kX3_124 vX3_leave (by first | assumption | exact isI.gx (by assumption) | exact isI.gc (by assumption) | exact isW.gx (by assumption) | exact isW.gF (by assumption) | exact isW.gT (by assumption) (by omega) | exact isW.gS (by assumption) (by omega) | exact isW.gK (by assumption) (by omega) | exact isW.g1 (by assumption) | exact isW.g2 (by assumption) | exact isW.g3 (by assumption) | exact isI.gx (isW.i0 (by assumption)) | exact isI.gc (isW.i0 (by assumption)) | exact isI.gx (isW.i1 (by assumption)) | exact isI.gc (isW.i1 (by assumption)) | exact isI.gx (isW.i2 (by assumption)) | exact isI.gc (isW.i2 (by assumption)) | exact isI.gx (isW.i3 (by assumption)) | exact isI.gc (isW.i3 (by assumption)) | exact isI.gx (isW.i4 (by assumption)) | exact isI.gc (isW.i4 (by assumption)) | exact isI.gx (isW.i5 (by assumption)) | exact isI.gc (isW.i5 (by assumption)) | exact isR.gx (by assumption) | exact isRd.gx (by assumption) | exact isSp.gx (by assumption) | exact isI.gx (isR.i (by assumption)) | exact isI.gx (isRd.i (by assumption)) | exact isI.gc (isRd.i (by assumption)) | exact isI.gx (isSp.i (by assumption)) | exact isW.gx (isR.w (by assumption)) | exact isW.gF (isR.w (by assumption)) | fail "no such object") rfl rfl (Nat.le_of_ble_eq_true rfl) (cr_leave _ Q_56 hcc hz hz0) (fun v_60 h_60 q_60 => ?_)
        obtain ⟨rfl, R_60, S_60⟩ := q_60
        refine r_return (pc := 63) dX3_goOnShutting_63 rfl ?_
        first | exact ⟨rfl, by unfold gsC; rw [if_pos (by omega)]; exact R_60, R_56.2.trans S_60⟩ | exact ⟨rfl, by unfold gsC; rw [if_neg (by omega)]; exact R_60, R_56.2.trans S_60⟩
      · try simp only [b01_0, bz_0, Classical.not_not] at c_34
        refine rj_iconst (pc := 37) dX3_goOnShutting_37 ?_
        refine r_goto (pc := 38) (tgt := 42) dX3_goOnShutting_38 (by decide) ?_
        refine rc_putS0 (pc := 42) dX3_goOnShutting_42 fX3_107 (by assumption) (by omega) (fun h_42 hW_42 hS_42 => ?_)
        have Q_42 := (hR.ofWr hS_42 hW_42).1
        refine r_aload_n (pc := 45) dX3_goOnShutting_45 rfl (by first | rfl | exact isRefV_rf _) ?_
        refine r_getf (pc := 46) dX3_goOnShutting_46 fX3_12 (by first | assumption | exact isI.gx (by assumption) | exact isI.gc (by assumption) | exact isW.gx (by assumption) | exact isW.gF (by assumption) | exact isW.gT (by assumption) (by omega) | exact isW.gS (by assumption) (by omega) | exact isW.gK (by assumption) (by omega) | exact isW.g1 (by assumption) | exact isW.g2 (by assumption) | exact isW.g3 (by assumption) | exact isI.gx (isW.i0 (by assumption)) | exact isI.gc (isW.i0 (by assumption)) | exact isI.gx (isW.i1 (by assumption)) | exact isI.gc (isW.i1 (by assumption)) | exact isI.gx (isW.i2 (by assumption)) | exact isI.gc (isW.i2 (by assumption)) | exact isI.gx (isW.i3 (by assumption)) | exact isI.gc (isW.i3 (by assumption)) | exact isI.gx (isW.i4 (by assumption)) | exact isI.gc (isW.i4 (by assumption)) | exact isI.gx (isW.i5 (by assumption)) | exact isI.gc (isW.i5 (by assumption)) | exact isR.gx (by assumption) | exact isRd.gx (by assumption) | exact isSp.gx (by assumption) | exact isI.gx (isR.i (by assumption)) | exact isI.gx (isRd.i (by assumption)) | exact isI.gc (isRd.i (by assumption)) | exact isI.gx (isSp.i (by assumption)) | exact isW.gx (isR.w (by assumption)) | exact isW.gF (isR.w (by assumption)) | fail "no such object") (by rfl) ?_
        refine r_getf (pc := 49) dX3_goOnShutting_49 fX3_133 (by first | assumption | exact isI.gx (by assumption) | exact isI.gc (by assumption) | exact isW.gx (by assumption) | exact isW.gF (by assumption) | exact isW.gT (by assumption) (by omega) | exact isW.gS (by assumption) (by omega) | exact isW.gK (by assumption) (by omega) | exact isW.g1 (by assumption) | exact isW.g2 (by assumption) | exact isW.g3 (by assumption) | exact isI.gx (isW.i0 (by assumption)) | exact isI.gc (isW.i0 (by assumption)) | exact isI.gx (isW.i1 (by assumption)) | exact isI.gc (isW.i1 (by assumption)) | exact isI.gx (isW.i2 (by assumption)) | exact isI.gc (isW.i2 (by assumption)) | exact isI.gx (isW.i3 (by assumption)) | exact isI.gc (isW.i3 (by assumption)) | exact isI.gx (isW.i4 (by assumption)) | exact isI.gc (isW.i4 (by assumption)) | exact isI.gx (isW.i5 (by assumption)) | exact isI.gc (isW.i5 (by assumption)) | exact isR.gx (by assumption) | exact isRd.gx (by assumption) | exact isSp.gx (by assumption) | exact isI.gx (isR.i (by assumption)) | exact isI.gx (isRd.i (by assumption)) | exact isI.gc (isRd.i (by assumption)) | exact isI.gx (isSp.i (by assumption)) | exact isW.gx (isR.w (by assumption)) | exact isW.gF (isR.w (by assumption)) | fail "no such object") (by rfl) ?_
        refine rj_bipush (pc := 52) dX3_goOnShutting_52 (by decide +kernel) ?_
        refine r_iload_n (pc := 54) dX3_goOnShutting_54 rfl ?_
        refine rj_iadd (pc := 55) dX3_goOnShutting_55 ?_
        have i2 := hW_42.i2
        have z2 : updI c (304 + 3 * u) 0 10 = (Z : Int) := (updI_n (by omega)).trans hZ
        rw [z2] at i2
        refine r_callV1 (pc := 56) dX3_goOnShutting_56 qX1_drop kX3_136 vX1_drop (by first | assumption | exact isI.gx (by assumption) | exact isI.gc (by assumption) | exact isW.gx (by assumption) | exact isW.gF (by assumption) | exact isW.gT (by assumption) (by omega) | exact isW.gS (by assumption) (by omega) | exact isW.gK (by assumption) (by omega) | exact isW.g1 (by assumption) | exact isW.g2 (by assumption) | exact isW.g3 (by assumption) | exact isI.gx (isW.i0 (by assumption)) | exact isI.gc (isW.i0 (by assumption)) | exact isI.gx (isW.i1 (by assumption)) | exact isI.gc (isW.i1 (by assumption)) | exact isI.gx (isW.i2 (by assumption)) | exact isI.gc (isW.i2 (by assumption)) | exact isI.gx (isW.i3 (by assumption)) | exact isI.gc (isW.i3 (by assumption)) | exact isI.gx (isW.i4 (by assumption)) | exact isI.gc (isW.i4 (by assumption)) | exact isI.gx (isW.i5 (by assumption)) | exact isI.gc (isW.i5 (by assumption)) | exact isR.gx (by assumption) | exact isRd.gx (by assumption) | exact isSp.gx (by assumption) | exact isI.gx (isR.i (by assumption)) | exact isI.gx (isRd.i (by assumption)) | exact isI.gc (isRd.i (by assumption)) | exact isI.gx (isSp.i (by assumption)) | exact isW.gx (isR.w (by assumption)) | exact isW.gF (isR.w (by assumption)) | fail "no such object") rfl rfl (Nat.le_of_ble_eq_true rfl) (ci_drop _ i2 (x := 100 + (u : Int)) ⟨by omega, by omega⟩ (by decide) hcapZ hC) (fun v_56 h_56 q_56 => ?_)
        obtain ⟨rfl, I_56, S_56⟩ := q_56
        have W_56 := hW_42.ofI (j := 2) (by decide) S_56 I_56
        have T_56 := S_56.mono (P' := wBlk (rA r 1)) (fun b hb => iBlk_wBlk (j := 2) hb)
        have R_56 := hR.ofWr (hS_42.trans T_56) W_56
        have rk := cnt_r (notB (100 + (u : Int)) (C 2)) Z
        have hcc : ∀ q, InR (updI (updI c (304 + 3 * u) 0) (8 + 2) (cnt (notB (100 + (u : Int)) (C 2)) Z) q) := updI_R (updI_R hc (by decide)) ⟨by omega, by omega⟩
        have Q_56 := R_56.1
        refine r_aload_n (pc := 59) dX3_goOnShutting_59 rfl (by first | rfl | exact isRefV_rf _) ?_
        refine r_callV0 (pc := 60) dX3_goOnShutting_60 qX3_leave kX3_124 vX3_leave (by first | assumption | exact isI.gx (by assumption) | exact isI.gc (by assumption) | exact isW.gx (by assumption) | exact isW.gF (by assumption) | exact isW.gT (by assumption) (by omega) | exact isW.gS (by assumption) (by omega) | exact isW.gK (by assumption) (by omega) | exact isW.g1 (by assumption) | exact isW.g2 (by assumption) | exact isW.g3 (by assumption) | exact isI.gx (isW.i0 (by assumption)) | exact isI.gc (isW.i0 (by assumption)) | exact isI.gx (isW.i1 (by assumption)) | exact isI.gc (isW.i1 (by assumption)) | exact isI.gx (isW.i2 (by assumption)) | exact isI.gc (isW.i2 (by assumption)) | exact isI.gx (isW.i3 (by assumption)) | exact isI.gc (isW.i3 (by assumption)) | exact isI.gx (isW.i4 (by assumption)) | exact isI.gc (isW.i4 (by assumption)) | exact isI.gx (isW.i5 (by assumption)) | exact isI.gc (isW.i5 (by assumption)) | exact isR.gx (by assumption) | exact isRd.gx (by assumption) | exact isSp.gx (by assumption) | exact isI.gx (isR.i (by assumption)) | exact isI.gx (isRd.i (by assumption)) | exact isI.gc (isRd.i (by assumption)) | exact isI.gx (isSp.i (by assumption)) | exact isW.gx (isR.w (by assumption)) | exact isW.gF (isR.w (by assumption)) | fail "no such object") rfl rfl (Nat.le_of_ble_eq_true rfl) (cr_leave _ Q_56 hcc hz hz0) (fun v_60 h_60 q_60 => ?_)
        obtain ⟨rfl, R_60, S_60⟩ := q_60
        refine r_return (pc := 63) dX3_goOnShutting_63 rfl ?_
        first | exact ⟨rfl, by unfold gsC; rw [if_pos (by omega)]; exact R_60, R_56.2.trans S_60⟩ | exact ⟨rfl, by unfold gsC; rw [if_neg (by omega)]; exact R_60, R_56.2.trans S_60⟩
  · exfalso; omega
set_option maxHeartbeats 4000000 in
set_option maxRecDepth 100000 in
theorem cr_scopesOpen {G : mG} {l : Launch} (d : Nat) {h : mH} {r : Nat} {b z : Int} {f : Nat → Int} {c : Nat → Int} {C : Nat → Nat → Int} {nm : Nat → Int64} {g : Nat → Option Nat} (hR : isR h r b z f c C nm g) (hc : ∀ q, InR (c q)) (hz0 : 0 ≤ z ∧ z < 160) {q : Nat} (hq2 : q < 10) {u : Nat} (hu : c (494 + 9 * q) = (u : Int)) (hu1 : (u : Int) < c 1) (hu2 : u < 60) (ho : c (304 + 3 * u) = 0) : RUNM G l (d + 3) mX3_goOnShuttingScopesOf [.ref r, .ref (wK (rA r 1) q)] h (fun v h' => v = none ∧ isR h' r b (z + 1) (updI f z.toNat (100 + (u : Int))) (updI c (304 + 3 * u) 2) C nm g ∧ Same (rBlk r) h h') := by
  refine RUNM.of (by decide +kernel) (Nat.le_of_ble_eq_true rfl) ?_
  have hW := hR.w
  refine r_aload_n (pc := 0) dX3_goOnShuttingScopesOf_0 rfl (by first | rfl | exact isRefV_rf _) ?_
  refine r_getf (pc := 1) dX3_goOnShuttingScopesOf_1 fX3_12 (by first | assumption | exact isI.gx (by assumption) | exact isI.gc (by assumption) | exact isW.gx (by assumption) | exact isW.gF (by assumption) | exact isW.gT (by assumption) (by omega) | exact isW.gS (by assumption) (by omega) | exact isW.gK (by assumption) (by omega) | exact isW.g1 (by assumption) | exact isW.g2 (by assumption) | exact isW.g3 (by assumption) | exact isI.gx (isW.i0 (by assumption)) | exact isI.gc (isW.i0 (by assumption)) | exact isI.gx (isW.i1 (by assumption)) | exact isI.gc (isW.i1 (by assumption)) | exact isI.gx (isW.i2 (by assumption)) | exact isI.gc (isW.i2 (by assumption)) | exact isI.gx (isW.i3 (by assumption)) | exact isI.gc (isW.i3 (by assumption)) | exact isI.gx (isW.i4 (by assumption)) | exact isI.gc (isW.i4 (by assumption)) | exact isI.gx (isW.i5 (by assumption)) | exact isI.gc (isW.i5 (by assumption)) | exact isR.gx (by assumption) | exact isRd.gx (by assumption) | exact isSp.gx (by assumption) | exact isI.gx (isR.i (by assumption)) | exact isI.gx (isRd.i (by assumption)) | exact isI.gc (isRd.i (by assumption)) | exact isI.gx (isSp.i (by assumption)) | exact isW.gx (isR.w (by assumption)) | exact isW.gF (isR.w (by assumption)) | fail "no such object") (by rfl) ?_
  refine r_aload_n (pc := 4) dX3_goOnShuttingScopesOf_4 rfl (by first | rfl | exact isRefV_rf _) ?_
  refine r_getf (pc := 5) dX3_goOnShuttingScopesOf_5 fX3_74 (by first | assumption | exact isI.gx (by assumption) | exact isI.gc (by assumption) | exact isW.gx (by assumption) | exact isW.gF (by assumption) | exact isW.gT (by assumption) (by omega) | exact isW.gS (by assumption) (by omega) | exact isW.gK (by assumption) (by omega) | exact isW.g1 (by assumption) | exact isW.g2 (by assumption) | exact isW.g3 (by assumption) | exact isI.gx (isW.i0 (by assumption)) | exact isI.gc (isW.i0 (by assumption)) | exact isI.gx (isW.i1 (by assumption)) | exact isI.gc (isW.i1 (by assumption)) | exact isI.gx (isW.i2 (by assumption)) | exact isI.gc (isW.i2 (by assumption)) | exact isI.gx (isW.i3 (by assumption)) | exact isI.gc (isW.i3 (by assumption)) | exact isI.gx (isW.i4 (by assumption)) | exact isI.gc (isW.i4 (by assumption)) | exact isI.gx (isW.i5 (by assumption)) | exact isI.gc (isW.i5 (by assumption)) | exact isR.gx (by assumption) | exact isRd.gx (by assumption) | exact isSp.gx (by assumption) | exact isI.gx (isR.i (by assumption)) | exact isI.gx (isRd.i (by assumption)) | exact isI.gc (isRd.i (by assumption)) | exact isI.gx (isSp.i (by assumption)) | exact isW.gx (isR.w (by assumption)) | exact isW.gF (isR.w (by assumption)) | fail "no such object") (by rfl) ?_
  rw [hu]
  refine r_callV1 (pc := 8) dX3_goOnShuttingScopesOf_8 qX9_scopeAt kX3_103 vX9_scopeAt (by first | assumption | exact isI.gx (by assumption) | exact isI.gc (by assumption) | exact isW.gx (by assumption) | exact isW.gF (by assumption) | exact isW.gT (by assumption) (by omega) | exact isW.gS (by assumption) (by omega) | exact isW.gK (by assumption) (by omega) | exact isW.g1 (by assumption) | exact isW.g2 (by assumption) | exact isW.g3 (by assumption) | exact isI.gx (isW.i0 (by assumption)) | exact isI.gc (isW.i0 (by assumption)) | exact isI.gx (isW.i1 (by assumption)) | exact isI.gc (isW.i1 (by assumption)) | exact isI.gx (isW.i2 (by assumption)) | exact isI.gc (isW.i2 (by assumption)) | exact isI.gx (isW.i3 (by assumption)) | exact isI.gc (isW.i3 (by assumption)) | exact isI.gx (isW.i4 (by assumption)) | exact isI.gc (isW.i4 (by assumption)) | exact isI.gx (isW.i5 (by assumption)) | exact isI.gc (isW.i5 (by assumption)) | exact isR.gx (by assumption) | exact isRd.gx (by assumption) | exact isSp.gx (by assumption) | exact isI.gx (isR.i (by assumption)) | exact isI.gx (isRd.i (by assumption)) | exact isI.gc (isRd.i (by assumption)) | exact isI.gx (isSp.i (by assumption)) | exact isW.gx (isR.w (by assumption)) | exact isW.gF (isR.w (by assumption)) | fail "no such object") rfl rfl (Nat.le_of_ble_eq_true rfl) (cw_scopeAt _ hW hc (i := (u : Int)) ⟨by omega, by omega⟩) (fun v_8 h_8 q_8 => ?_)
  obtain ⟨q1_8, rfl⟩ := q_8
  · obtain rfl := scAt_P (by omega) q1_8
    refine r_astore_n (pc := 11) dX3_goOnShuttingScopesOf_11 (Nat.le_of_ble_eq_true rfl) (by first | rfl | exact isRefV_rf _) ?_
    dsimp only [lsSt, List.set, mLs, mEnt]
    rw [Int.toNat_natCast]
    refine r_aload_n (pc := 12) dX3_goOnShuttingScopesOf_12 rfl (by first | rfl | exact isRefV_rf _) ?_
    refine r_ifnull (pc := 13) (tgt := 37) dX3_goOnShuttingScopesOf_13 (by decide) (by first | rfl | exact isRefV_rf _) (fun c_13 => by cases c_13) (fun a_13 c_13 => ?_)
    refine r_aload_n (pc := 16) dX3_goOnShuttingScopesOf_16 rfl (by first | rfl | exact isRefV_rf _) ?_
    refine r_getf (pc := 17) dX3_goOnShuttingScopesOf_17 fX3_107 (by first | assumption | exact isI.gx (by assumption) | exact isI.gc (by assumption) | exact isW.gx (by assumption) | exact isW.gF (by assumption) | exact isW.gT (by assumption) (by omega) | exact isW.gS (by assumption) (by omega) | exact isW.gK (by assumption) (by omega) | exact isW.g1 (by assumption) | exact isW.g2 (by assumption) | exact isW.g3 (by assumption) | exact isI.gx (isW.i0 (by assumption)) | exact isI.gc (isW.i0 (by assumption)) | exact isI.gx (isW.i1 (by assumption)) | exact isI.gc (isW.i1 (by assumption)) | exact isI.gx (isW.i2 (by assumption)) | exact isI.gc (isW.i2 (by assumption)) | exact isI.gx (isW.i3 (by assumption)) | exact isI.gc (isW.i3 (by assumption)) | exact isI.gx (isW.i4 (by assumption)) | exact isI.gc (isW.i4 (by assumption)) | exact isI.gx (isW.i5 (by assumption)) | exact isI.gc (isW.i5 (by assumption)) | exact isR.gx (by assumption) | exact isRd.gx (by assumption) | exact isSp.gx (by assumption) | exact isI.gx (isR.i (by assumption)) | exact isI.gx (isRd.i (by assumption)) | exact isI.gc (isRd.i (by assumption)) | exact isI.gx (isSp.i (by assumption)) | exact isW.gx (isR.w (by assumption)) | exact isW.gF (isR.w (by assumption)) | fail "no such object") (by rfl) ?_
    refine rj_if_ne (pc := 20) (tgt := 37) dX3_goOnShuttingScopesOf_20 (by decide) (by first | exact b01_r | exact bz_r | omega | (constructor <;> omega) | apply_assumption | (apply atF_r; assumption) | fail "no range") (fun c_20 => ?_) (fun c_20 => ?_)
    · try simp only [b01_0, bz_0, Classical.not_not] at c_20
      exact absurd ho c_20
    · try simp only [b01_0, bz_0, Classical.not_not] at c_20
      refine r_aload_n (pc := 23) dX3_goOnShuttingScopesOf_23 rfl (by first | rfl | exact isRefV_rf _) ?_
      refine rj_bipush (pc := 24) dX3_goOnShuttingScopesOf_24 (by decide +kernel) ?_
      refine r_aload_n (pc := 26) dX3_goOnShuttingScopesOf_26 rfl (by first | rfl | exact isRefV_rf _) ?_
      refine r_getf (pc := 27) dX3_goOnShuttingScopesOf_27 fX3_74 (by first | assumption | exact isI.gx (by assumption) | exact isI.gc (by assumption) | exact isW.gx (by assumption) | exact isW.gF (by assumption) | exact isW.gT (by assumption) (by omega) | exact isW.gS (by assumption) (by omega) | exact isW.gK (by assumption) (by omega) | exact isW.g1 (by assumption) | exact isW.g2 (by assumption) | exact isW.g3 (by assumption) | exact isI.gx (isW.i0 (by assumption)) | exact isI.gc (isW.i0 (by assumption)) | exact isI.gx (isW.i1 (by assumption)) | exact isI.gc (isW.i1 (by assumption)) | exact isI.gx (isW.i2 (by assumption)) | exact isI.gc (isW.i2 (by assumption)) | exact isI.gx (isW.i3 (by assumption)) | exact isI.gc (isW.i3 (by assumption)) | exact isI.gx (isW.i4 (by assumption)) | exact isI.gc (isW.i4 (by assumption)) | exact isI.gx (isW.i5 (by assumption)) | exact isI.gc (isW.i5 (by assumption)) | exact isR.gx (by assumption) | exact isRd.gx (by assumption) | exact isSp.gx (by assumption) | exact isI.gx (isR.i (by assumption)) | exact isI.gx (isRd.i (by assumption)) | exact isI.gc (isRd.i (by assumption)) | exact isI.gx (isSp.i (by assumption)) | exact isW.gx (isR.w (by assumption)) | exact isW.gF (isR.w (by assumption)) | fail "no such object") (by rfl) ?_
      refine rj_iadd (pc := 30) dX3_goOnShuttingScopesOf_30 ?_
      rw [hu]
      refine r_callV1 (pc := 31) dX3_goOnShuttingScopesOf_31 qX3_beginToEnd kX3_40 vX3_beginToEnd (by first | assumption | exact isI.gx (by assumption) | exact isI.gc (by assumption) | exact isW.gx (by assumption) | exact isW.gF (by assumption) | exact isW.gT (by assumption) (by omega) | exact isW.gS (by assumption) (by omega) | exact isW.gK (by assumption) (by omega) | exact isW.g1 (by assumption) | exact isW.g2 (by assumption) | exact isW.g3 (by assumption) | exact isI.gx (isW.i0 (by assumption)) | exact isI.gc (isW.i0 (by assumption)) | exact isI.gx (isW.i1 (by assumption)) | exact isI.gc (isW.i1 (by assumption)) | exact isI.gx (isW.i2 (by assumption)) | exact isI.gc (isW.i2 (by assumption)) | exact isI.gx (isW.i3 (by assumption)) | exact isI.gc (isW.i3 (by assumption)) | exact isI.gx (isW.i4 (by assumption)) | exact isI.gc (isW.i4 (by assumption)) | exact isI.gx (isW.i5 (by assumption)) | exact isI.gc (isW.i5 (by assumption)) | exact isR.gx (by assumption) | exact isRd.gx (by assumption) | exact isSp.gx (by assumption) | exact isI.gx (isR.i (by assumption)) | exact isI.gx (isRd.i (by assumption)) | exact isI.gc (isRd.i (by assumption)) | exact isI.gx (isSp.i (by assumption)) | exact isW.gx (isR.w (by assumption)) | exact isW.gF (isR.w (by assumption)) | fail "no such object") rfl rfl (Nat.le_of_ble_eq_true rfl) (cr_beginS _ hR hc hz0 hu1 hu2) (fun v_31 h_31 q_31 => ?_)
      obtain ⟨rfl, R_31, S_31⟩ := q_31
      refine r_goto (pc := 34) (tgt := 67) dX3_goOnShuttingScopesOf_34 (by decide) ?_
      refine r_return (pc := 67) dX3_goOnShuttingScopesOf_67 rfl ?_
      exact ⟨rfl, R_31, S_31⟩
set_option maxHeartbeats 4000000 in
set_option maxRecDepth 100000 in
theorem cr_scopesDone {G : mG} {l : Launch} (d : Nat) {h : mH} {r : Nat} {b z : Int} {f : Nat → Int} {c : Nat → Int} {C : Nat → Nat → Int} {nm : Nat → Int64} {g : Nat → Option Nat} (hR : isR h r b z f c C nm g) (hc : ∀ q, InR (c q)) {q : Nat} (hq2 : q < 10) {u : Nat} (hu : c (494 + 9 * q) = (u : Int)) (hu1 : (u : Int) < c 1) (hu2 : u < 60) (hz : InR z) (hz0 : 0 < z) (ho : ¬ c (304 + 3 * u) = 0) (hn : c (494 + 9 * q) = c (493 + 9 * q)) : RUNM G l (d + 3) mX3_goOnShuttingScopesOf [.ref r, .ref (wK (rA r 1) q)] h (fun v h' => v = none ∧ isR h' r b (z - 1) f c C nm g ∧ Same (rBlk r) h h') := by
  refine RUNM.of (by decide +kernel) (Nat.le_of_ble_eq_true rfl) ?_
  have hW := hR.w
  have rq := hc (493 + 9 * q)
  have rq2 := hc (494 + 9 * q)
  refine r_aload_n (pc := 0) dX3_goOnShuttingScopesOf_0 rfl (by first | rfl | exact isRefV_rf _) ?_
  refine r_getf (pc := 1) dX3_goOnShuttingScopesOf_1 fX3_12 (by first | assumption | exact isI.gx (by assumption) | exact isI.gc (by assumption) | exact isW.gx (by assumption) | exact isW.gF (by assumption) | exact isW.gT (by assumption) (by omega) | exact isW.gS (by assumption) (by omega) | exact isW.gK (by assumption) (by omega) | exact isW.g1 (by assumption) | exact isW.g2 (by assumption) | exact isW.g3 (by assumption) | exact isI.gx (isW.i0 (by assumption)) | exact isI.gc (isW.i0 (by assumption)) | exact isI.gx (isW.i1 (by assumption)) | exact isI.gc (isW.i1 (by assumption)) | exact isI.gx (isW.i2 (by assumption)) | exact isI.gc (isW.i2 (by assumption)) | exact isI.gx (isW.i3 (by assumption)) | exact isI.gc (isW.i3 (by assumption)) | exact isI.gx (isW.i4 (by assumption)) | exact isI.gc (isW.i4 (by assumption)) | exact isI.gx (isW.i5 (by assumption)) | exact isI.gc (isW.i5 (by assumption)) | exact isR.gx (by assumption) | exact isRd.gx (by assumption) | exact isSp.gx (by assumption) | exact isI.gx (isR.i (by assumption)) | exact isI.gx (isRd.i (by assumption)) | exact isI.gc (isRd.i (by assumption)) | exact isI.gx (isSp.i (by assumption)) | exact isW.gx (isR.w (by assumption)) | exact isW.gF (isR.w (by assumption)) | fail "no such object") (by rfl) ?_
  refine r_aload_n (pc := 4) dX3_goOnShuttingScopesOf_4 rfl (by first | rfl | exact isRefV_rf _) ?_
  refine r_getf (pc := 5) dX3_goOnShuttingScopesOf_5 fX3_74 (by first | assumption | exact isI.gx (by assumption) | exact isI.gc (by assumption) | exact isW.gx (by assumption) | exact isW.gF (by assumption) | exact isW.gT (by assumption) (by omega) | exact isW.gS (by assumption) (by omega) | exact isW.gK (by assumption) (by omega) | exact isW.g1 (by assumption) | exact isW.g2 (by assumption) | exact isW.g3 (by assumption) | exact isI.gx (isW.i0 (by assumption)) | exact isI.gc (isW.i0 (by assumption)) | exact isI.gx (isW.i1 (by assumption)) | exact isI.gc (isW.i1 (by assumption)) | exact isI.gx (isW.i2 (by assumption)) | exact isI.gc (isW.i2 (by assumption)) | exact isI.gx (isW.i3 (by assumption)) | exact isI.gc (isW.i3 (by assumption)) | exact isI.gx (isW.i4 (by assumption)) | exact isI.gc (isW.i4 (by assumption)) | exact isI.gx (isW.i5 (by assumption)) | exact isI.gc (isW.i5 (by assumption)) | exact isR.gx (by assumption) | exact isRd.gx (by assumption) | exact isSp.gx (by assumption) | exact isI.gx (isR.i (by assumption)) | exact isI.gx (isRd.i (by assumption)) | exact isI.gc (isRd.i (by assumption)) | exact isI.gx (isSp.i (by assumption)) | exact isW.gx (isR.w (by assumption)) | exact isW.gF (isR.w (by assumption)) | fail "no such object") (by rfl) ?_
  rw [hu]
  refine r_callV1 (pc := 8) dX3_goOnShuttingScopesOf_8 qX9_scopeAt kX3_103 vX9_scopeAt (by first | assumption | exact isI.gx (by assumption) | exact isI.gc (by assumption) | exact isW.gx (by assumption) | exact isW.gF (by assumption) | exact isW.gT (by assumption) (by omega) | exact isW.gS (by assumption) (by omega) | exact isW.gK (by assumption) (by omega) | exact isW.g1 (by assumption) | exact isW.g2 (by assumption) | exact isW.g3 (by assumption) | exact isI.gx (isW.i0 (by assumption)) | exact isI.gc (isW.i0 (by assumption)) | exact isI.gx (isW.i1 (by assumption)) | exact isI.gc (isW.i1 (by assumption)) | exact isI.gx (isW.i2 (by assumption)) | exact isI.gc (isW.i2 (by assumption)) | exact isI.gx (isW.i3 (by assumption)) | exact isI.gc (isW.i3 (by assumption)) | exact isI.gx (isW.i4 (by assumption)) | exact isI.gc (isW.i4 (by assumption)) | exact isI.gx (isW.i5 (by assumption)) | exact isI.gc (isW.i5 (by assumption)) | exact isR.gx (by assumption) | exact isRd.gx (by assumption) | exact isSp.gx (by assumption) | exact isI.gx (isR.i (by assumption)) | exact isI.gx (isRd.i (by assumption)) | exact isI.gc (isRd.i (by assumption)) | exact isI.gx (isSp.i (by assumption)) | exact isW.gx (isR.w (by assumption)) | exact isW.gF (isR.w (by assumption)) | fail "no such object") rfl rfl (Nat.le_of_ble_eq_true rfl) (cw_scopeAt _ hW hc (i := (u : Int)) ⟨by omega, by omega⟩) (fun v_8 h_8 q_8 => ?_)
  obtain ⟨q1_8, rfl⟩ := q_8
  · obtain rfl := scAt_P (by omega) q1_8
    refine r_astore_n (pc := 11) dX3_goOnShuttingScopesOf_11 (Nat.le_of_ble_eq_true rfl) (by first | rfl | exact isRefV_rf _) ?_
    dsimp only [lsSt, List.set, mLs, mEnt]
    rw [Int.toNat_natCast]
    refine r_aload_n (pc := 12) dX3_goOnShuttingScopesOf_12 rfl (by first | rfl | exact isRefV_rf _) ?_
    refine r_ifnull (pc := 13) (tgt := 37) dX3_goOnShuttingScopesOf_13 (by decide) (by first | rfl | exact isRefV_rf _) (fun c_13 => by cases c_13) (fun a_13 c_13 => ?_)
    refine r_aload_n (pc := 16) dX3_goOnShuttingScopesOf_16 rfl (by first | rfl | exact isRefV_rf _) ?_
    refine r_getf (pc := 17) dX3_goOnShuttingScopesOf_17 fX3_107 (by first | assumption | exact isI.gx (by assumption) | exact isI.gc (by assumption) | exact isW.gx (by assumption) | exact isW.gF (by assumption) | exact isW.gT (by assumption) (by omega) | exact isW.gS (by assumption) (by omega) | exact isW.gK (by assumption) (by omega) | exact isW.g1 (by assumption) | exact isW.g2 (by assumption) | exact isW.g3 (by assumption) | exact isI.gx (isW.i0 (by assumption)) | exact isI.gc (isW.i0 (by assumption)) | exact isI.gx (isW.i1 (by assumption)) | exact isI.gc (isW.i1 (by assumption)) | exact isI.gx (isW.i2 (by assumption)) | exact isI.gc (isW.i2 (by assumption)) | exact isI.gx (isW.i3 (by assumption)) | exact isI.gc (isW.i3 (by assumption)) | exact isI.gx (isW.i4 (by assumption)) | exact isI.gc (isW.i4 (by assumption)) | exact isI.gx (isW.i5 (by assumption)) | exact isI.gc (isW.i5 (by assumption)) | exact isR.gx (by assumption) | exact isRd.gx (by assumption) | exact isSp.gx (by assumption) | exact isI.gx (isR.i (by assumption)) | exact isI.gx (isRd.i (by assumption)) | exact isI.gc (isRd.i (by assumption)) | exact isI.gx (isSp.i (by assumption)) | exact isW.gx (isR.w (by assumption)) | exact isW.gF (isR.w (by assumption)) | fail "no such object") (by rfl) ?_
    refine rj_if_ne (pc := 20) (tgt := 37) dX3_goOnShuttingScopesOf_20 (by decide) (by first | exact b01_r | exact bz_r | omega | (constructor <;> omega) | apply_assumption | (apply atF_r; assumption) | fail "no range") (fun c_20 => ?_) (fun c_20 => ?_)
    · try simp only [b01_0, bz_0, Classical.not_not] at c_20
      refine r_aload_n (pc := 37) dX3_goOnShuttingScopesOf_37 rfl (by first | rfl | exact isRefV_rf _) ?_
      refine r_ifnull (pc := 38) (tgt := 52) dX3_goOnShuttingScopesOf_38 (by decide) (by first | rfl | exact isRefV_rf _) (fun c_38 => by cases c_38) (fun a_38 c_38 => ?_)
      refine r_aload_n (pc := 41) dX3_goOnShuttingScopesOf_41 rfl (by first | rfl | exact isRefV_rf _) ?_
      refine r_getf (pc := 42) dX3_goOnShuttingScopesOf_42 fX3_74 (by first | assumption | exact isI.gx (by assumption) | exact isI.gc (by assumption) | exact isW.gx (by assumption) | exact isW.gF (by assumption) | exact isW.gT (by assumption) (by omega) | exact isW.gS (by assumption) (by omega) | exact isW.gK (by assumption) (by omega) | exact isW.g1 (by assumption) | exact isW.g2 (by assumption) | exact isW.g3 (by assumption) | exact isI.gx (isW.i0 (by assumption)) | exact isI.gc (isW.i0 (by assumption)) | exact isI.gx (isW.i1 (by assumption)) | exact isI.gc (isW.i1 (by assumption)) | exact isI.gx (isW.i2 (by assumption)) | exact isI.gc (isW.i2 (by assumption)) | exact isI.gx (isW.i3 (by assumption)) | exact isI.gc (isW.i3 (by assumption)) | exact isI.gx (isW.i4 (by assumption)) | exact isI.gc (isW.i4 (by assumption)) | exact isI.gx (isW.i5 (by assumption)) | exact isI.gc (isW.i5 (by assumption)) | exact isR.gx (by assumption) | exact isRd.gx (by assumption) | exact isSp.gx (by assumption) | exact isI.gx (isR.i (by assumption)) | exact isI.gx (isRd.i (by assumption)) | exact isI.gc (isRd.i (by assumption)) | exact isI.gx (isSp.i (by assumption)) | exact isW.gx (isR.w (by assumption)) | exact isW.gF (isR.w (by assumption)) | fail "no such object") (by rfl) ?_
      refine r_aload_n (pc := 45) dX3_goOnShuttingScopesOf_45 rfl (by first | rfl | exact isRefV_rf _) ?_
      refine r_getf (pc := 46) dX3_goOnShuttingScopesOf_46 fX3_172 (by first | assumption | exact isI.gx (by assumption) | exact isI.gc (by assumption) | exact isW.gx (by assumption) | exact isW.gF (by assumption) | exact isW.gT (by assumption) (by omega) | exact isW.gS (by assumption) (by omega) | exact isW.gK (by assumption) (by omega) | exact isW.g1 (by assumption) | exact isW.g2 (by assumption) | exact isW.g3 (by assumption) | exact isI.gx (isW.i0 (by assumption)) | exact isI.gc (isW.i0 (by assumption)) | exact isI.gx (isW.i1 (by assumption)) | exact isI.gc (isW.i1 (by assumption)) | exact isI.gx (isW.i2 (by assumption)) | exact isI.gc (isW.i2 (by assumption)) | exact isI.gx (isW.i3 (by assumption)) | exact isI.gc (isW.i3 (by assumption)) | exact isI.gx (isW.i4 (by assumption)) | exact isI.gc (isW.i4 (by assumption)) | exact isI.gx (isW.i5 (by assumption)) | exact isI.gc (isW.i5 (by assumption)) | exact isR.gx (by assumption) | exact isRd.gx (by assumption) | exact isSp.gx (by assumption) | exact isI.gx (isR.i (by assumption)) | exact isI.gx (isRd.i (by assumption)) | exact isI.gc (isRd.i (by assumption)) | exact isI.gx (isSp.i (by assumption)) | exact isW.gx (isR.w (by assumption)) | exact isW.gF (isR.w (by assumption)) | fail "no such object") (by rfl) ?_
      refine rj_icmp_ne (pc := 49) (tgt := 59) dX3_goOnShuttingScopesOf_49 (by decide) (by first | exact b01_r | exact bz_r | omega | (constructor <;> omega) | apply_assumption | (apply atF_r; assumption) | fail "no range") (by first | exact b01_r | exact bz_r | omega | (constructor <;> omega) | apply_assumption | (apply atF_r; assumption) | fail "no range") (fun c_49 => ?_) (fun c_49 => ?_)
      · exact absurd hn c_49
      · refine r_aload_n (pc := 52) dX3_goOnShuttingScopesOf_52 rfl (by first | rfl | exact isRefV_rf _) ?_
        refine r_callV0 (pc := 53) dX3_goOnShuttingScopesOf_53 qX3_leave kX3_124 vX3_leave (by first | assumption | exact isI.gx (by assumption) | exact isI.gc (by assumption) | exact isW.gx (by assumption) | exact isW.gF (by assumption) | exact isW.gT (by assumption) (by omega) | exact isW.gS (by assumption) (by omega) | exact isW.gK (by assumption) (by omega) | exact isW.g1 (by assumption) | exact isW.g2 (by assumption) | exact isW.g3 (by assumption) | exact isI.gx (isW.i0 (by assumption)) | exact isI.gc (isW.i0 (by assumption)) | exact isI.gx (isW.i1 (by assumption)) | exact isI.gc (isW.i1 (by assumption)) | exact isI.gx (isW.i2 (by assumption)) | exact isI.gc (isW.i2 (by assumption)) | exact isI.gx (isW.i3 (by assumption)) | exact isI.gc (isW.i3 (by assumption)) | exact isI.gx (isW.i4 (by assumption)) | exact isI.gc (isW.i4 (by assumption)) | exact isI.gx (isW.i5 (by assumption)) | exact isI.gc (isW.i5 (by assumption)) | exact isR.gx (by assumption) | exact isRd.gx (by assumption) | exact isSp.gx (by assumption) | exact isI.gx (isR.i (by assumption)) | exact isI.gx (isRd.i (by assumption)) | exact isI.gc (isRd.i (by assumption)) | exact isI.gx (isSp.i (by assumption)) | exact isW.gx (isR.w (by assumption)) | exact isW.gF (isR.w (by assumption)) | fail "no such object") rfl rfl (Nat.le_of_ble_eq_true rfl) (cr_leave _ hR hc hz hz0) (fun v_53 h_53 q_53 => ?_)
        obtain ⟨rfl, R_53, S_53⟩ := q_53
        refine r_goto (pc := 56) (tgt := 67) dX3_goOnShuttingScopesOf_56 (by decide) ?_
        refine r_return (pc := 67) dX3_goOnShuttingScopesOf_67 rfl ?_
        exact ⟨rfl, R_53, S_53⟩
    · try simp only [b01_0, bz_0, Classical.not_not] at c_20
      exact absurd c_20 ho
set_option maxHeartbeats 4000000 in
set_option maxRecDepth 100000 in
theorem cr_scopesUp {G : mG} {l : Launch} (d : Nat) {h : mH} {r : Nat} {b z : Int} {f : Nat → Int} {c : Nat → Int} {C : Nat → Nat → Int} {nm : Nat → Int64} {g : Nat → Option Nat} (hR : isR h r b z f c C nm g) (hc : ∀ q, InR (c q)) {q : Nat} (hq2 : q < 10) {u : Nat} (hu : c (494 + 9 * q) = (u : Int)) (hu1 : (u : Int) < c 1) (hu2 : u < 60) (ho : ¬ c (304 + 3 * u) = 0) (hn : ¬ c (494 + 9 * q) = c (493 + 9 * q)) : RUNM G l (d + 3) mX3_goOnShuttingScopesOf [.ref r, .ref (wK (rA r 1) q)] h (fun v h' => v = none ∧ isR h' r b z f (updI c (494 + 9 * q) (c (305 + 3 * u))) C nm g ∧ Same (rBlk r) h h') := by
  refine RUNM.of (by decide +kernel) (Nat.le_of_ble_eq_true rfl) ?_
  have hW := hR.w
  have rq := hc (493 + 9 * q)
  have rq2 := hc (494 + 9 * q)
  refine r_aload_n (pc := 0) dX3_goOnShuttingScopesOf_0 rfl (by first | rfl | exact isRefV_rf _) ?_
  refine r_getf (pc := 1) dX3_goOnShuttingScopesOf_1 fX3_12 (by first | assumption | exact isI.gx (by assumption) | exact isI.gc (by assumption) | exact isW.gx (by assumption) | exact isW.gF (by assumption) | exact isW.gT (by assumption) (by omega) | exact isW.gS (by assumption) (by omega) | exact isW.gK (by assumption) (by omega) | exact isW.g1 (by assumption) | exact isW.g2 (by assumption) | exact isW.g3 (by assumption) | exact isI.gx (isW.i0 (by assumption)) | exact isI.gc (isW.i0 (by assumption)) | exact isI.gx (isW.i1 (by assumption)) | exact isI.gc (isW.i1 (by assumption)) | exact isI.gx (isW.i2 (by assumption)) | exact isI.gc (isW.i2 (by assumption)) | exact isI.gx (isW.i3 (by assumption)) | exact isI.gc (isW.i3 (by assumption)) | exact isI.gx (isW.i4 (by assumption)) | exact isI.gc (isW.i4 (by assumption)) | exact isI.gx (isW.i5 (by assumption)) | exact isI.gc (isW.i5 (by assumption)) | exact isR.gx (by assumption) | exact isRd.gx (by assumption) | exact isSp.gx (by assumption) | exact isI.gx (isR.i (by assumption)) | exact isI.gx (isRd.i (by assumption)) | exact isI.gc (isRd.i (by assumption)) | exact isI.gx (isSp.i (by assumption)) | exact isW.gx (isR.w (by assumption)) | exact isW.gF (isR.w (by assumption)) | fail "no such object") (by rfl) ?_
  refine r_aload_n (pc := 4) dX3_goOnShuttingScopesOf_4 rfl (by first | rfl | exact isRefV_rf _) ?_
  refine r_getf (pc := 5) dX3_goOnShuttingScopesOf_5 fX3_74 (by first | assumption | exact isI.gx (by assumption) | exact isI.gc (by assumption) | exact isW.gx (by assumption) | exact isW.gF (by assumption) | exact isW.gT (by assumption) (by omega) | exact isW.gS (by assumption) (by omega) | exact isW.gK (by assumption) (by omega) | exact isW.g1 (by assumption) | exact isW.g2 (by assumption) | exact isW.g3 (by assumption) | exact isI.gx (isW.i0 (by assumption)) | exact isI.gc (isW.i0 (by assumption)) | exact isI.gx (isW.i1 (by assumption)) | exact isI.gc (isW.i1 (by assumption)) | exact isI.gx (isW.i2 (by assumption)) | exact isI.gc (isW.i2 (by assumption)) | exact isI.gx (isW.i3 (by assumption)) | exact isI.gc (isW.i3 (by assumption)) | exact isI.gx (isW.i4 (by assumption)) | exact isI.gc (isW.i4 (by assumption)) | exact isI.gx (isW.i5 (by assumption)) | exact isI.gc (isW.i5 (by assumption)) | exact isR.gx (by assumption) | exact isRd.gx (by assumption) | exact isSp.gx (by assumption) | exact isI.gx (isR.i (by assumption)) | exact isI.gx (isRd.i (by assumption)) | exact isI.gc (isRd.i (by assumption)) | exact isI.gx (isSp.i (by assumption)) | exact isW.gx (isR.w (by assumption)) | exact isW.gF (isR.w (by assumption)) | fail "no such object") (by rfl) ?_
  rw [hu]
  refine r_callV1 (pc := 8) dX3_goOnShuttingScopesOf_8 qX9_scopeAt kX3_103 vX9_scopeAt (by first | assumption | exact isI.gx (by assumption) | exact isI.gc (by assumption) | exact isW.gx (by assumption) | exact isW.gF (by assumption) | exact isW.gT (by assumption) (by omega) | exact isW.gS (by assumption) (by omega) | exact isW.gK (by assumption) (by omega) | exact isW.g1 (by assumption) | exact isW.g2 (by assumption) | exact isW.g3 (by assumption) | exact isI.gx (isW.i0 (by assumption)) | exact isI.gc (isW.i0 (by assumption)) | exact isI.gx (isW.i1 (by assumption)) | exact isI.gc (isW.i1 (by assumption)) | exact isI.gx (isW.i2 (by assumption)) | exact isI.gc (isW.i2 (by assumption)) | exact isI.gx (isW.i3 (by assumption)) | exact isI.gc (isW.i3 (by assumption)) | exact isI.gx (isW.i4 (by assumption)) | exact isI.gc (isW.i4 (by assumption)) | exact isI.gx (isW.i5 (by assumption)) | exact isI.gc (isW.i5 (by assumption)) | exact isR.gx (by assumption) | exact isRd.gx (by assumption) | exact isSp.gx (by assumption) | exact isI.gx (isR.i (by assumption)) | exact isI.gx (isRd.i (by assumption)) | exact isI.gc (isRd.i (by assumption)) | exact isI.gx (isSp.i (by assumption)) | exact isW.gx (isR.w (by assumption)) | exact isW.gF (isR.w (by assumption)) | fail "no such object") rfl rfl (Nat.le_of_ble_eq_true rfl) (cw_scopeAt _ hW hc (i := (u : Int)) ⟨by omega, by omega⟩) (fun v_8 h_8 q_8 => ?_)
  obtain ⟨q1_8, rfl⟩ := q_8
  · obtain rfl := scAt_P (by omega) q1_8
    refine r_astore_n (pc := 11) dX3_goOnShuttingScopesOf_11 (Nat.le_of_ble_eq_true rfl) (by first | rfl | exact isRefV_rf _) ?_
    dsimp only [lsSt, List.set, mLs, mEnt]
    rw [Int.toNat_natCast]
    refine r_aload_n (pc := 12) dX3_goOnShuttingScopesOf_12 rfl (by first | rfl | exact isRefV_rf _) ?_
    refine r_ifnull (pc := 13) (tgt := 37) dX3_goOnShuttingScopesOf_13 (by decide) (by first | rfl | exact isRefV_rf _) (fun c_13 => by cases c_13) (fun a_13 c_13 => ?_)
    refine r_aload_n (pc := 16) dX3_goOnShuttingScopesOf_16 rfl (by first | rfl | exact isRefV_rf _) ?_
    refine r_getf (pc := 17) dX3_goOnShuttingScopesOf_17 fX3_107 (by first | assumption | exact isI.gx (by assumption) | exact isI.gc (by assumption) | exact isW.gx (by assumption) | exact isW.gF (by assumption) | exact isW.gT (by assumption) (by omega) | exact isW.gS (by assumption) (by omega) | exact isW.gK (by assumption) (by omega) | exact isW.g1 (by assumption) | exact isW.g2 (by assumption) | exact isW.g3 (by assumption) | exact isI.gx (isW.i0 (by assumption)) | exact isI.gc (isW.i0 (by assumption)) | exact isI.gx (isW.i1 (by assumption)) | exact isI.gc (isW.i1 (by assumption)) | exact isI.gx (isW.i2 (by assumption)) | exact isI.gc (isW.i2 (by assumption)) | exact isI.gx (isW.i3 (by assumption)) | exact isI.gc (isW.i3 (by assumption)) | exact isI.gx (isW.i4 (by assumption)) | exact isI.gc (isW.i4 (by assumption)) | exact isI.gx (isW.i5 (by assumption)) | exact isI.gc (isW.i5 (by assumption)) | exact isR.gx (by assumption) | exact isRd.gx (by assumption) | exact isSp.gx (by assumption) | exact isI.gx (isR.i (by assumption)) | exact isI.gx (isRd.i (by assumption)) | exact isI.gc (isRd.i (by assumption)) | exact isI.gx (isSp.i (by assumption)) | exact isW.gx (isR.w (by assumption)) | exact isW.gF (isR.w (by assumption)) | fail "no such object") (by rfl) ?_
    refine rj_if_ne (pc := 20) (tgt := 37) dX3_goOnShuttingScopesOf_20 (by decide) (by first | exact b01_r | exact bz_r | omega | (constructor <;> omega) | apply_assumption | (apply atF_r; assumption) | fail "no range") (fun c_20 => ?_) (fun c_20 => ?_)
    · try simp only [b01_0, bz_0, Classical.not_not] at c_20
      refine r_aload_n (pc := 37) dX3_goOnShuttingScopesOf_37 rfl (by first | rfl | exact isRefV_rf _) ?_
      refine r_ifnull (pc := 38) (tgt := 52) dX3_goOnShuttingScopesOf_38 (by decide) (by first | rfl | exact isRefV_rf _) (fun c_38 => by cases c_38) (fun a_38 c_38 => ?_)
      refine r_aload_n (pc := 41) dX3_goOnShuttingScopesOf_41 rfl (by first | rfl | exact isRefV_rf _) ?_
      refine r_getf (pc := 42) dX3_goOnShuttingScopesOf_42 fX3_74 (by first | assumption | exact isI.gx (by assumption) | exact isI.gc (by assumption) | exact isW.gx (by assumption) | exact isW.gF (by assumption) | exact isW.gT (by assumption) (by omega) | exact isW.gS (by assumption) (by omega) | exact isW.gK (by assumption) (by omega) | exact isW.g1 (by assumption) | exact isW.g2 (by assumption) | exact isW.g3 (by assumption) | exact isI.gx (isW.i0 (by assumption)) | exact isI.gc (isW.i0 (by assumption)) | exact isI.gx (isW.i1 (by assumption)) | exact isI.gc (isW.i1 (by assumption)) | exact isI.gx (isW.i2 (by assumption)) | exact isI.gc (isW.i2 (by assumption)) | exact isI.gx (isW.i3 (by assumption)) | exact isI.gc (isW.i3 (by assumption)) | exact isI.gx (isW.i4 (by assumption)) | exact isI.gc (isW.i4 (by assumption)) | exact isI.gx (isW.i5 (by assumption)) | exact isI.gc (isW.i5 (by assumption)) | exact isR.gx (by assumption) | exact isRd.gx (by assumption) | exact isSp.gx (by assumption) | exact isI.gx (isR.i (by assumption)) | exact isI.gx (isRd.i (by assumption)) | exact isI.gc (isRd.i (by assumption)) | exact isI.gx (isSp.i (by assumption)) | exact isW.gx (isR.w (by assumption)) | exact isW.gF (isR.w (by assumption)) | fail "no such object") (by rfl) ?_
      refine r_aload_n (pc := 45) dX3_goOnShuttingScopesOf_45 rfl (by first | rfl | exact isRefV_rf _) ?_
      refine r_getf (pc := 46) dX3_goOnShuttingScopesOf_46 fX3_172 (by first | assumption | exact isI.gx (by assumption) | exact isI.gc (by assumption) | exact isW.gx (by assumption) | exact isW.gF (by assumption) | exact isW.gT (by assumption) (by omega) | exact isW.gS (by assumption) (by omega) | exact isW.gK (by assumption) (by omega) | exact isW.g1 (by assumption) | exact isW.g2 (by assumption) | exact isW.g3 (by assumption) | exact isI.gx (isW.i0 (by assumption)) | exact isI.gc (isW.i0 (by assumption)) | exact isI.gx (isW.i1 (by assumption)) | exact isI.gc (isW.i1 (by assumption)) | exact isI.gx (isW.i2 (by assumption)) | exact isI.gc (isW.i2 (by assumption)) | exact isI.gx (isW.i3 (by assumption)) | exact isI.gc (isW.i3 (by assumption)) | exact isI.gx (isW.i4 (by assumption)) | exact isI.gc (isW.i4 (by assumption)) | exact isI.gx (isW.i5 (by assumption)) | exact isI.gc (isW.i5 (by assumption)) | exact isR.gx (by assumption) | exact isRd.gx (by assumption) | exact isSp.gx (by assumption) | exact isI.gx (isR.i (by assumption)) | exact isI.gx (isRd.i (by assumption)) | exact isI.gc (isRd.i (by assumption)) | exact isI.gx (isSp.i (by assumption)) | exact isW.gx (isR.w (by assumption)) | exact isW.gF (isR.w (by assumption)) | fail "no such object") (by rfl) ?_
      refine rj_icmp_ne (pc := 49) (tgt := 59) dX3_goOnShuttingScopesOf_49 (by decide) (by first | exact b01_r | exact bz_r | omega | (constructor <;> omega) | apply_assumption | (apply atF_r; assumption) | fail "no range") (by first | exact b01_r | exact bz_r | omega | (constructor <;> omega) | apply_assumption | (apply atF_r; assumption) | fail "no range") (fun c_49 => ?_) (fun c_49 => ?_)
      · refine r_aload_n (pc := 59) dX3_goOnShuttingScopesOf_59 rfl (by first | rfl | exact isRefV_rf _) ?_
        refine r_aload_n (pc := 60) dX3_goOnShuttingScopesOf_60 rfl (by first | rfl | exact isRefV_rf _) ?_
        refine r_getf (pc := 61) dX3_goOnShuttingScopesOf_61 fX3_175 (by first | assumption | exact isI.gx (by assumption) | exact isI.gc (by assumption) | exact isW.gx (by assumption) | exact isW.gF (by assumption) | exact isW.gT (by assumption) (by omega) | exact isW.gS (by assumption) (by omega) | exact isW.gK (by assumption) (by omega) | exact isW.g1 (by assumption) | exact isW.g2 (by assumption) | exact isW.g3 (by assumption) | exact isI.gx (isW.i0 (by assumption)) | exact isI.gc (isW.i0 (by assumption)) | exact isI.gx (isW.i1 (by assumption)) | exact isI.gc (isW.i1 (by assumption)) | exact isI.gx (isW.i2 (by assumption)) | exact isI.gc (isW.i2 (by assumption)) | exact isI.gx (isW.i3 (by assumption)) | exact isI.gc (isW.i3 (by assumption)) | exact isI.gx (isW.i4 (by assumption)) | exact isI.gc (isW.i4 (by assumption)) | exact isI.gx (isW.i5 (by assumption)) | exact isI.gc (isW.i5 (by assumption)) | exact isR.gx (by assumption) | exact isRd.gx (by assumption) | exact isSp.gx (by assumption) | exact isI.gx (isR.i (by assumption)) | exact isI.gx (isRd.i (by assumption)) | exact isI.gc (isRd.i (by assumption)) | exact isI.gx (isSp.i (by assumption)) | exact isW.gx (isR.w (by assumption)) | exact isW.gF (isR.w (by assumption)) | fail "no such object") (by rfl) ?_
        refine rc_putK8 (pc := 64) dX3_goOnShuttingScopesOf_64 fX3_74 (by assumption) (by omega) (fun h_64 hW_64 hS_64 => ?_)
        refine r_return (pc := 67) dX3_goOnShuttingScopesOf_67 rfl ?_
        exact ⟨rfl, (hR.ofWr hS_64 hW_64).1, (hR.ofWr hS_64 hW_64).2⟩
      · exact absurd c_49 hn
    · try simp only [b01_0, bz_0, Classical.not_not] at c_20
      exact absurd c_20 ho
end mg_9c
section mg_9d
/-! ===== the class: one round of its work: tasks ===== -/
set_option maxHeartbeats 4000000 in
set_option maxRecDepth 100000 in
theorem cr_taskOver {G : mG} {l : Launch} (d : Nat) {h : mH} {r : Nat} {b z : Int} {f : Nat → Int} {c : Nat → Int} {C : Nat → Nat → Int} {nm : Nat → Int64} {g : Nat → Option Nat} (hR : isR h r b z f c C nm g) (hc : ∀ q, InR (c q)) {q : Nat} (hq : (q : Int) < c 2) (hq2 : q < 10) (hst : ¬ c (489 + 9 * q) = 0) {R : Option Value → mH → Prop} (P : RUNM G l (d + 1) mX3_goOnShuttingScopesOf [.ref r, .ref (wK (rA r 1) q)] h (fun v h' => v = none ∧ R v h')) : RUNM G l (d + 2) mX3_goOnWithTask [.ref r, .int (J (q : Int))] h (fun v h' => v = none ∧ R v h') := by
  refine RUNM.of (by decide +kernel) (Nat.le_of_ble_eq_true rfl) ?_
  have hW := hR.w
  refine r_aload_n (pc := 0) dX3_goOnWithTask_0 rfl (by first | rfl | exact isRefV_rf _) ?_
  refine r_getf (pc := 1) dX3_goOnWithTask_1 fX3_12 (by first | assumption | exact isI.gx (by assumption) | exact isI.gc (by assumption) | exact isW.gx (by assumption) | exact isW.gF (by assumption) | exact isW.gT (by assumption) (by omega) | exact isW.gS (by assumption) (by omega) | exact isW.gK (by assumption) (by omega) | exact isW.g1 (by assumption) | exact isW.g2 (by assumption) | exact isW.g3 (by assumption) | exact isI.gx (isW.i0 (by assumption)) | exact isI.gc (isW.i0 (by assumption)) | exact isI.gx (isW.i1 (by assumption)) | exact isI.gc (isW.i1 (by assumption)) | exact isI.gx (isW.i2 (by assumption)) | exact isI.gc (isW.i2 (by assumption)) | exact isI.gx (isW.i3 (by assumption)) | exact isI.gc (isW.i3 (by assumption)) | exact isI.gx (isW.i4 (by assumption)) | exact isI.gc (isW.i4 (by assumption)) | exact isI.gx (isW.i5 (by assumption)) | exact isI.gc (isW.i5 (by assumption)) | exact isR.gx (by assumption) | exact isRd.gx (by assumption) | exact isSp.gx (by assumption) | exact isI.gx (isR.i (by assumption)) | exact isI.gx (isRd.i (by assumption)) | exact isI.gc (isRd.i (by assumption)) | exact isI.gx (isSp.i (by assumption)) | exact isW.gx (isR.w (by assumption)) | exact isW.gF (isR.w (by assumption)) | fail "no such object") (by rfl) ?_
  refine r_iload_n (pc := 4) dX3_goOnWithTask_4 rfl ?_
  refine r_callV1 (pc := 5) dX3_goOnWithTask_5 qX9_taskAt kX3_57 vX9_taskAt (by first | assumption | exact isI.gx (by assumption) | exact isI.gc (by assumption) | exact isW.gx (by assumption) | exact isW.gF (by assumption) | exact isW.gT (by assumption) (by omega) | exact isW.gS (by assumption) (by omega) | exact isW.gK (by assumption) (by omega) | exact isW.g1 (by assumption) | exact isW.g2 (by assumption) | exact isW.g3 (by assumption) | exact isI.gx (isW.i0 (by assumption)) | exact isI.gc (isW.i0 (by assumption)) | exact isI.gx (isW.i1 (by assumption)) | exact isI.gc (isW.i1 (by assumption)) | exact isI.gx (isW.i2 (by assumption)) | exact isI.gc (isW.i2 (by assumption)) | exact isI.gx (isW.i3 (by assumption)) | exact isI.gc (isW.i3 (by assumption)) | exact isI.gx (isW.i4 (by assumption)) | exact isI.gc (isW.i4 (by assumption)) | exact isI.gx (isW.i5 (by assumption)) | exact isI.gc (isW.i5 (by assumption)) | exact isR.gx (by assumption) | exact isRd.gx (by assumption) | exact isSp.gx (by assumption) | exact isI.gx (isR.i (by assumption)) | exact isI.gx (isRd.i (by assumption)) | exact isI.gc (isRd.i (by assumption)) | exact isI.gx (isSp.i (by assumption)) | exact isW.gx (isR.w (by assumption)) | exact isW.gF (isR.w (by assumption)) | fail "no such object") rfl rfl (Nat.le_of_ble_eq_true rfl) (cw_taskAt _ hW hc (i := (q : Int)) ⟨by omega, by omega⟩) (fun v_5 h_5 q_5 => ?_)
  obtain ⟨q1_5, rfl⟩ := q_5
  · obtain rfl := tkAt_P (by omega) q1_5
    refine r_astore_n (pc := 8) dX3_goOnWithTask_8 (Nat.le_of_ble_eq_true rfl) (by first | rfl | exact isRefV_rf _) ?_
    dsimp only [lsSt, List.set, mLs, mEnt]
    refine r_aload_n (pc := 9) dX3_goOnWithTask_9 rfl (by first | rfl | exact isRefV_rf _) ?_
    refine r_ifnonnull (pc := 10) (tgt := 18) dX3_goOnWithTask_10 (by decide) (by first | rfl | exact isRefV_rf _) (fun a_10 c_10 => ?_) (fun c_10 => by cases c_10)
    rw [Int.toNat_natCast]
    refine r_aload_n (pc := 18) dX3_goOnWithTask_18 rfl (by first | rfl | exact isRefV_rf _) ?_
    refine r_getf (pc := 19) dX3_goOnWithTask_19 fX3_81 (by first | assumption | exact isI.gx (by assumption) | exact isI.gc (by assumption) | exact isW.gx (by assumption) | exact isW.gF (by assumption) | exact isW.gT (by assumption) (by omega) | exact isW.gS (by assumption) (by omega) | exact isW.gK (by assumption) (by omega) | exact isW.g1 (by assumption) | exact isW.g2 (by assumption) | exact isW.g3 (by assumption) | exact isI.gx (isW.i0 (by assumption)) | exact isI.gc (isW.i0 (by assumption)) | exact isI.gx (isW.i1 (by assumption)) | exact isI.gc (isW.i1 (by assumption)) | exact isI.gx (isW.i2 (by assumption)) | exact isI.gc (isW.i2 (by assumption)) | exact isI.gx (isW.i3 (by assumption)) | exact isI.gc (isW.i3 (by assumption)) | exact isI.gx (isW.i4 (by assumption)) | exact isI.gc (isW.i4 (by assumption)) | exact isI.gx (isW.i5 (by assumption)) | exact isI.gc (isW.i5 (by assumption)) | exact isR.gx (by assumption) | exact isRd.gx (by assumption) | exact isSp.gx (by assumption) | exact isI.gx (isR.i (by assumption)) | exact isI.gx (isRd.i (by assumption)) | exact isI.gc (isRd.i (by assumption)) | exact isI.gx (isSp.i (by assumption)) | exact isW.gx (isR.w (by assumption)) | exact isW.gF (isR.w (by assumption)) | fail "no such object") (by rfl) ?_
    refine rj_if_eq (pc := 22) (tgt := 31) dX3_goOnWithTask_22 (by decide) (by first | exact b01_r | exact bz_r | omega | (constructor <;> omega) | apply_assumption | (apply atF_r; assumption) | fail "no range") (fun c_22 => ?_) (fun c_22 => ?_)
    · try simp only [b01_0, bz_0, Classical.not_not] at c_22
      exact absurd c_22 hst
    · try simp only [b01_0, bz_0, Classical.not_not] at c_22
      refine r_aload_n (pc := 25) dX3_goOnWithTask_25 rfl (by first | rfl | exact isRefV_rf _) ?_
      refine r_aload_n (pc := 26) dX3_goOnWithTask_26 rfl (by first | rfl | exact isRefV_rf _) ?_
      refine r_callV1 (pc := 27) dX3_goOnWithTask_27 qX3_goOnShuttingScopesOf kX3_158 vX3_goOnShuttingScopesOf (by first | assumption | exact isI.gx (by assumption) | exact isI.gc (by assumption) | exact isW.gx (by assumption) | exact isW.gF (by assumption) | exact isW.gT (by assumption) (by omega) | exact isW.gS (by assumption) (by omega) | exact isW.gK (by assumption) (by omega) | exact isW.g1 (by assumption) | exact isW.g2 (by assumption) | exact isW.g3 (by assumption) | exact isI.gx (isW.i0 (by assumption)) | exact isI.gc (isW.i0 (by assumption)) | exact isI.gx (isW.i1 (by assumption)) | exact isI.gc (isW.i1 (by assumption)) | exact isI.gx (isW.i2 (by assumption)) | exact isI.gc (isW.i2 (by assumption)) | exact isI.gx (isW.i3 (by assumption)) | exact isI.gc (isW.i3 (by assumption)) | exact isI.gx (isW.i4 (by assumption)) | exact isI.gc (isW.i4 (by assumption)) | exact isI.gx (isW.i5 (by assumption)) | exact isI.gc (isW.i5 (by assumption)) | exact isR.gx (by assumption) | exact isRd.gx (by assumption) | exact isSp.gx (by assumption) | exact isI.gx (isR.i (by assumption)) | exact isI.gx (isRd.i (by assumption)) | exact isI.gc (isRd.i (by assumption)) | exact isI.gx (isSp.i (by assumption)) | exact isW.gx (isR.w (by assumption)) | exact isW.gF (isR.w (by assumption)) | fail "no such object") rfl rfl (Nat.le_of_ble_eq_true rfl) (P) (fun v_27 h_27 q_27 => ?_)
      obtain ⟨rfl, R_27⟩ := q_27
      refine r_return (pc := 30) dX3_goOnWithTask_30 rfl ?_
      exact ⟨rfl, R_27⟩
theorem fcF_r {c f : Nat → Int} {F : Nat} {i : Int} : 0 ≤ fcF c f F i ∧ fcF c f F i ≤ F + 1 := by
  unfold fcF
  have := cnt_r (gbB (b0F c i) f i) F
  split <;> omega
set_option maxHeartbeats 4000000 in
set_option maxRecDepth 100000 in
theorem cr_taskEnds {G : mG} {l : Launch} (d : Nat) {h : mH} {r : Nat} {b z : Int} {f : Nat → Int} {c : Nat → Int} {C : Nat → Nat → Int} {nm : Nat → Int64} {g : Nat → Option Nat} (hR : isR h r b z f c C nm g) (hc : ∀ q, InR (c q)) {q : Nat} (hq : (q : Int) < c 2) (hq2 : q < 10) {F : Nat} (h11 : c 11 = (F : Int)) (h12 : c 12 = (F : Int)) (h13 : c 13 = (F : Int)) (hcapF : F ≤ 90) (h4 : 0 ≤ c 4 ∧ c 4 ≤ (F : Int)) (hC5 : ∀ q, InR (C 5 q)) (hst : c (489 + 9 * q) = 0) (hg : g (181 + 2 * q) = none) : RUNM G l (d + 4) mX3_goOnWithTask [.ref r, .int (J (q : Int))] h (fun v h' => v = none ∧ isR h' r b z f (updI c (489 + 9 * q) (if fcF c (C 5) F (q : Int) = 0 then 1 else 2)) C nm g ∧ Same (rBlk r) h h') := by
  refine RUNM.of (by decide +kernel) (Nat.le_of_ble_eq_true rfl) ?_
  have hW := hR.w
  have rf := fcF_r (c := c) (f := C 5) (F := F) (i := (q : Int))
  refine r_aload_n (pc := 0) dX3_goOnWithTask_0 rfl (by first | rfl | exact isRefV_rf _) ?_
  refine r_getf (pc := 1) dX3_goOnWithTask_1 fX3_12 (by first | assumption | exact isI.gx (by assumption) | exact isI.gc (by assumption) | exact isW.gx (by assumption) | exact isW.gF (by assumption) | exact isW.gT (by assumption) (by omega) | exact isW.gS (by assumption) (by omega) | exact isW.gK (by assumption) (by omega) | exact isW.g1 (by assumption) | exact isW.g2 (by assumption) | exact isW.g3 (by assumption) | exact isI.gx (isW.i0 (by assumption)) | exact isI.gc (isW.i0 (by assumption)) | exact isI.gx (isW.i1 (by assumption)) | exact isI.gc (isW.i1 (by assumption)) | exact isI.gx (isW.i2 (by assumption)) | exact isI.gc (isW.i2 (by assumption)) | exact isI.gx (isW.i3 (by assumption)) | exact isI.gc (isW.i3 (by assumption)) | exact isI.gx (isW.i4 (by assumption)) | exact isI.gc (isW.i4 (by assumption)) | exact isI.gx (isW.i5 (by assumption)) | exact isI.gc (isW.i5 (by assumption)) | exact isR.gx (by assumption) | exact isRd.gx (by assumption) | exact isSp.gx (by assumption) | exact isI.gx (isR.i (by assumption)) | exact isI.gx (isRd.i (by assumption)) | exact isI.gc (isRd.i (by assumption)) | exact isI.gx (isSp.i (by assumption)) | exact isW.gx (isR.w (by assumption)) | exact isW.gF (isR.w (by assumption)) | fail "no such object") (by rfl) ?_
  refine r_iload_n (pc := 4) dX3_goOnWithTask_4 rfl ?_
  refine r_callV1 (pc := 5) dX3_goOnWithTask_5 qX9_taskAt kX3_57 vX9_taskAt (by first | assumption | exact isI.gx (by assumption) | exact isI.gc (by assumption) | exact isW.gx (by assumption) | exact isW.gF (by assumption) | exact isW.gT (by assumption) (by omega) | exact isW.gS (by assumption) (by omega) | exact isW.gK (by assumption) (by omega) | exact isW.g1 (by assumption) | exact isW.g2 (by assumption) | exact isW.g3 (by assumption) | exact isI.gx (isW.i0 (by assumption)) | exact isI.gc (isW.i0 (by assumption)) | exact isI.gx (isW.i1 (by assumption)) | exact isI.gc (isW.i1 (by assumption)) | exact isI.gx (isW.i2 (by assumption)) | exact isI.gc (isW.i2 (by assumption)) | exact isI.gx (isW.i3 (by assumption)) | exact isI.gc (isW.i3 (by assumption)) | exact isI.gx (isW.i4 (by assumption)) | exact isI.gc (isW.i4 (by assumption)) | exact isI.gx (isW.i5 (by assumption)) | exact isI.gc (isW.i5 (by assumption)) | exact isR.gx (by assumption) | exact isRd.gx (by assumption) | exact isSp.gx (by assumption) | exact isI.gx (isR.i (by assumption)) | exact isI.gx (isRd.i (by assumption)) | exact isI.gc (isRd.i (by assumption)) | exact isI.gx (isSp.i (by assumption)) | exact isW.gx (isR.w (by assumption)) | exact isW.gF (isR.w (by assumption)) | fail "no such object") rfl rfl (Nat.le_of_ble_eq_true rfl) (cw_taskAt _ hW hc (i := (q : Int)) ⟨by omega, by omega⟩) (fun v_5 h_5 q_5 => ?_)
  obtain ⟨q1_5, rfl⟩ := q_5
  · obtain rfl := tkAt_P (by omega) q1_5
    refine r_astore_n (pc := 8) dX3_goOnWithTask_8 (Nat.le_of_ble_eq_true rfl) (by first | rfl | exact isRefV_rf _) ?_
    dsimp only [lsSt, List.set, mLs, mEnt]
    refine r_aload_n (pc := 9) dX3_goOnWithTask_9 rfl (by first | rfl | exact isRefV_rf _) ?_
    refine r_ifnonnull (pc := 10) (tgt := 18) dX3_goOnWithTask_10 (by decide) (by first | rfl | exact isRefV_rf _) (fun a_10 c_10 => ?_) (fun c_10 => by cases c_10)
    rw [Int.toNat_natCast]
    refine r_aload_n (pc := 18) dX3_goOnWithTask_18 rfl (by first | rfl | exact isRefV_rf _) ?_
    refine r_getf (pc := 19) dX3_goOnWithTask_19 fX3_81 (by first | assumption | exact isI.gx (by assumption) | exact isI.gc (by assumption) | exact isW.gx (by assumption) | exact isW.gF (by assumption) | exact isW.gT (by assumption) (by omega) | exact isW.gS (by assumption) (by omega) | exact isW.gK (by assumption) (by omega) | exact isW.g1 (by assumption) | exact isW.g2 (by assumption) | exact isW.g3 (by assumption) | exact isI.gx (isW.i0 (by assumption)) | exact isI.gc (isW.i0 (by assumption)) | exact isI.gx (isW.i1 (by assumption)) | exact isI.gc (isW.i1 (by assumption)) | exact isI.gx (isW.i2 (by assumption)) | exact isI.gc (isW.i2 (by assumption)) | exact isI.gx (isW.i3 (by assumption)) | exact isI.gc (isW.i3 (by assumption)) | exact isI.gx (isW.i4 (by assumption)) | exact isI.gc (isW.i4 (by assumption)) | exact isI.gx (isW.i5 (by assumption)) | exact isI.gc (isW.i5 (by assumption)) | exact isR.gx (by assumption) | exact isRd.gx (by assumption) | exact isSp.gx (by assumption) | exact isI.gx (isR.i (by assumption)) | exact isI.gx (isRd.i (by assumption)) | exact isI.gc (isRd.i (by assumption)) | exact isI.gx (isSp.i (by assumption)) | exact isW.gx (isR.w (by assumption)) | exact isW.gF (isR.w (by assumption)) | fail "no such object") (by rfl) ?_
    refine rj_if_eq (pc := 22) (tgt := 31) dX3_goOnWithTask_22 (by decide) (by first | exact b01_r | exact bz_r | omega | (constructor <;> omega) | apply_assumption | (apply atF_r; assumption) | fail "no range") (fun c_22 => ?_) (fun c_22 => ?_)
    · try simp only [b01_0, bz_0, Classical.not_not] at c_22
      refine r_aload_n (pc := 31) dX3_goOnWithTask_31 rfl (by first | rfl | exact isRefV_rf _) ?_
      refine r_getf (pc := 32) dX3_goOnWithTask_32 fX3_162 (by first | assumption | exact isI.gx (by assumption) | exact isI.gc (by assumption) | exact isW.gx (by assumption) | exact isW.gF (by assumption) | exact isW.gT (by assumption) (by omega) | exact isW.gS (by assumption) (by omega) | exact isW.gK (by assumption) (by omega) | exact isW.g1 (by assumption) | exact isW.g2 (by assumption) | exact isW.g3 (by assumption) | exact isI.gx (isW.i0 (by assumption)) | exact isI.gc (isW.i0 (by assumption)) | exact isI.gx (isW.i1 (by assumption)) | exact isI.gc (isW.i1 (by assumption)) | exact isI.gx (isW.i2 (by assumption)) | exact isI.gc (isW.i2 (by assumption)) | exact isI.gx (isW.i3 (by assumption)) | exact isI.gc (isW.i3 (by assumption)) | exact isI.gx (isW.i4 (by assumption)) | exact isI.gc (isW.i4 (by assumption)) | exact isI.gx (isW.i5 (by assumption)) | exact isI.gc (isW.i5 (by assumption)) | exact isR.gx (by assumption) | exact isRd.gx (by assumption) | exact isSp.gx (by assumption) | exact isI.gx (isR.i (by assumption)) | exact isI.gx (isRd.i (by assumption)) | exact isI.gc (isRd.i (by assumption)) | exact isI.gx (isSp.i (by assumption)) | exact isW.gx (isR.w (by assumption)) | exact isW.gF (isR.w (by assumption)) | fail "no such object") (by rfl) ?_
      rw [hg, vrn]
      refine r_astore_n (pc := 35) dX3_goOnWithTask_35 (Nat.le_of_ble_eq_true rfl) (by first | rfl | exact isRefV_rf _) ?_
      dsimp only [lsSt, List.set, mLs, mEnt]
      refine r_aload_n (pc := 36) dX3_goOnWithTask_36 rfl (by first | rfl | exact isRefV_rf _) ?_
      refine r_ifnonnull (pc := 37) (tgt := 61) dX3_goOnWithTask_37 (by decide) (by first | rfl | exact isRefV_rf _) (fun a_37 c_37 => by cases c_37) (fun c_37 => ?_)
      refine r_aload_n (pc := 40) dX3_goOnWithTask_40 rfl (by first | rfl | exact isRefV_rf _) ?_
      refine r_aload_n (pc := 41) dX3_goOnWithTask_41 rfl (by first | rfl | exact isRefV_rf _) ?_
      refine r_getf (pc := 42) dX3_goOnWithTask_42 fX3_12 (by first | assumption | exact isI.gx (by assumption) | exact isI.gc (by assumption) | exact isW.gx (by assumption) | exact isW.gF (by assumption) | exact isW.gT (by assumption) (by omega) | exact isW.gS (by assumption) (by omega) | exact isW.gK (by assumption) (by omega) | exact isW.g1 (by assumption) | exact isW.g2 (by assumption) | exact isW.g3 (by assumption) | exact isI.gx (isW.i0 (by assumption)) | exact isI.gc (isW.i0 (by assumption)) | exact isI.gx (isW.i1 (by assumption)) | exact isI.gc (isW.i1 (by assumption)) | exact isI.gx (isW.i2 (by assumption)) | exact isI.gc (isW.i2 (by assumption)) | exact isI.gx (isW.i3 (by assumption)) | exact isI.gc (isW.i3 (by assumption)) | exact isI.gx (isW.i4 (by assumption)) | exact isI.gc (isW.i4 (by assumption)) | exact isI.gx (isW.i5 (by assumption)) | exact isI.gc (isW.i5 (by assumption)) | exact isR.gx (by assumption) | exact isRd.gx (by assumption) | exact isSp.gx (by assumption) | exact isI.gx (isR.i (by assumption)) | exact isI.gx (isRd.i (by assumption)) | exact isI.gc (isRd.i (by assumption)) | exact isI.gx (isSp.i (by assumption)) | exact isW.gx (isR.w (by assumption)) | exact isW.gF (isR.w (by assumption)) | fail "no such object") (by rfl) ?_
      refine r_iload_n (pc := 45) dX3_goOnWithTask_45 rfl ?_
      refine r_callV1 (pc := 46) dX3_goOnWithTask_46 qX9_faultCount kX3_46 vX9_faultCount (by first | assumption | exact isI.gx (by assumption) | exact isI.gc (by assumption) | exact isW.gx (by assumption) | exact isW.gF (by assumption) | exact isW.gT (by assumption) (by omega) | exact isW.gS (by assumption) (by omega) | exact isW.gK (by assumption) (by omega) | exact isW.g1 (by assumption) | exact isW.g2 (by assumption) | exact isW.g3 (by assumption) | exact isI.gx (isW.i0 (by assumption)) | exact isI.gc (isW.i0 (by assumption)) | exact isI.gx (isW.i1 (by assumption)) | exact isI.gc (isW.i1 (by assumption)) | exact isI.gx (isW.i2 (by assumption)) | exact isI.gc (isW.i2 (by assumption)) | exact isI.gx (isW.i3 (by assumption)) | exact isI.gc (isW.i3 (by assumption)) | exact isI.gx (isW.i4 (by assumption)) | exact isI.gc (isW.i4 (by assumption)) | exact isI.gx (isW.i5 (by assumption)) | exact isI.gc (isW.i5 (by assumption)) | exact isR.gx (by assumption) | exact isRd.gx (by assumption) | exact isSp.gx (by assumption) | exact isI.gx (isR.i (by assumption)) | exact isI.gx (isRd.i (by assumption)) | exact isI.gc (isRd.i (by assumption)) | exact isI.gx (isSp.i (by assumption)) | exact isW.gx (isR.w (by assumption)) | exact isW.gF (isR.w (by assumption)) | fail "no such object") rfl rfl (Nat.le_of_ble_eq_true rfl) (cq_faultCount _ hR.w hc h11 h12 h13 hcapF h4 hC5 (i := (q : Int)) ⟨by omega, by omega⟩) (fun v_46 h_46 q_46 => ?_)
      obtain ⟨rfl, rfl⟩ := q_46
      refine rj_if_ne (pc := 49) (tgt := 56) dX3_goOnWithTask_49 (by decide) (by first | exact b01_r | exact bz_r | omega | (constructor <;> omega) | apply_assumption | (apply atF_r; assumption) | fail "no range") (fun c_49 => ?_) (fun c_49 => ?_)
      · try simp only [b01_0, bz_0, Classical.not_not] at c_49
        refine rj_iconst (pc := 56) dX3_goOnWithTask_56 ?_
        refine rc_putK3 (pc := 57) dX3_goOnWithTask_57 fX3_81 (by assumption) (by omega) (fun h_57 hW_57 hS_57 => ?_)
        refine r_return (pc := 60) dX3_goOnWithTask_60 rfl ?_
        first | exact ⟨rfl, by rw [if_pos (by omega)]; exact (hR.ofWr hS_57 hW_57).1, (hR.ofWr hS_57 hW_57).2⟩ | exact ⟨rfl, by rw [if_neg (by omega)]; exact (hR.ofWr hS_57 hW_57).1, (hR.ofWr hS_57 hW_57).2⟩
      · try simp only [b01_0, bz_0, Classical.not_not] at c_49
        refine rj_iconst (pc := 52) dX3_goOnWithTask_52 ?_
        refine r_goto (pc := 53) (tgt := 57) dX3_goOnWithTask_53 (by decide) ?_
        refine rc_putK3 (pc := 57) dX3_goOnWithTask_57 fX3_81 (by assumption) (by omega) (fun h_57 hW_57 hS_57 => ?_)
        refine r_return (pc := 60) dX3_goOnWithTask_60 rfl ?_
        first | exact ⟨rfl, by rw [if_pos (by omega)]; exact (hR.ofWr hS_57 hW_57).1, (hR.ofWr hS_57 hW_57).2⟩ | exact ⟨rfl, by rw [if_neg (by omega)]; exact (hR.ofWr hS_57 hW_57).1, (hR.ofWr hS_57 hW_57).2⟩
    · try simp only [b01_0, bz_0, Classical.not_not] at c_22
      exact absurd hst c_22
end mg_9d
section mg_9e
/-! ===== the class: one round of its work: a task's step ===== -/
set_option maxHeartbeats 4000000 in
set_option maxRecDepth 100000 in
theorem cr_leave0 {G : mG} {l : Launch} (d : Nat) {h : mH} {r : Nat} {b z : Int} {f : Nat → Int} {c : Nat → Int} {C : Nat → Nat → Int} {nm : Nat → Int64} {g : Nat → Option Nat} (hR : isR h r b z f c C nm g) (hz : InR z) (hz0 : 0 < z) : RUNM G l (d) mX3_leave [.ref r] h (fun v h' => v = none ∧ isR h' r b (z - 1) f c C nm g ∧ Same (rBlk r) h h') := by
  refine RUNM.of (by decide +kernel) (Nat.le_of_ble_eq_true rfl) ?_
  refine r_aload_n (pc := 0) dX3_leave_0 rfl (by first | rfl | exact isRefV_rf _) ?_
  refine r_getf (pc := 1) dX3_leave_1 fX3_23 (by first | assumption | exact isI.gx (by assumption) | exact isI.gc (by assumption) | exact isW.gx (by assumption) | exact isW.gF (by assumption) | exact isW.gT (by assumption) (by omega) | exact isW.gS (by assumption) (by omega) | exact isW.gK (by assumption) (by omega) | exact isW.g1 (by assumption) | exact isW.g2 (by assumption) | exact isW.g3 (by assumption) | exact isI.gx (isW.i0 (by assumption)) | exact isI.gc (isW.i0 (by assumption)) | exact isI.gx (isW.i1 (by assumption)) | exact isI.gc (isW.i1 (by assumption)) | exact isI.gx (isW.i2 (by assumption)) | exact isI.gc (isW.i2 (by assumption)) | exact isI.gx (isW.i3 (by assumption)) | exact isI.gc (isW.i3 (by assumption)) | exact isI.gx (isW.i4 (by assumption)) | exact isI.gc (isW.i4 (by assumption)) | exact isI.gx (isW.i5 (by assumption)) | exact isI.gc (isW.i5 (by assumption)) | exact isR.gx (by assumption) | exact isRd.gx (by assumption) | exact isSp.gx (by assumption) | exact isI.gx (isR.i (by assumption)) | exact isI.gx (isRd.i (by assumption)) | exact isI.gc (isRd.i (by assumption)) | exact isI.gx (isSp.i (by assumption)) | exact isW.gx (isR.w (by assumption)) | exact isW.gF (isR.w (by assumption)) | fail "no such object") (by rfl) ?_
  refine r_getf (pc := 4) dX3_leave_4 fX3_88 (by first | assumption | exact isI.gx (by assumption) | exact isI.gc (by assumption) | exact isW.gx (by assumption) | exact isW.gF (by assumption) | exact isW.gT (by assumption) (by omega) | exact isW.gS (by assumption) (by omega) | exact isW.gK (by assumption) (by omega) | exact isW.g1 (by assumption) | exact isW.g2 (by assumption) | exact isW.g3 (by assumption) | exact isI.gx (isW.i0 (by assumption)) | exact isI.gc (isW.i0 (by assumption)) | exact isI.gx (isW.i1 (by assumption)) | exact isI.gc (isW.i1 (by assumption)) | exact isI.gx (isW.i2 (by assumption)) | exact isI.gc (isW.i2 (by assumption)) | exact isI.gx (isW.i3 (by assumption)) | exact isI.gc (isW.i3 (by assumption)) | exact isI.gx (isW.i4 (by assumption)) | exact isI.gc (isW.i4 (by assumption)) | exact isI.gx (isW.i5 (by assumption)) | exact isI.gc (isW.i5 (by assumption)) | exact isR.gx (by assumption) | exact isRd.gx (by assumption) | exact isSp.gx (by assumption) | exact isI.gx (isR.i (by assumption)) | exact isI.gx (isRd.i (by assumption)) | exact isI.gc (isRd.i (by assumption)) | exact isI.gx (isSp.i (by assumption)) | exact isW.gx (isR.w (by assumption)) | exact isW.gF (isR.w (by assumption)) | fail "no such object") (by rfl) ?_
  refine rj_if_le (pc := 7) (tgt := 23) dX3_leave_7 (by decide) (by first | exact b01_r | exact bz_r | omega | (constructor <;> omega) | apply_assumption | (apply atF_r; assumption) | fail "no range") (fun c_7 => ?_) (fun c_7 => ?_)
  · exfalso
    first | omega | exact absurd trivial ‹¬ True›
  · refine r_aload_n (pc := 10) dX3_leave_10 rfl (by first | rfl | exact isRefV_rf _) ?_
    refine r_getf (pc := 11) dX3_leave_11 fX3_23 (by first | assumption | exact isI.gx (by assumption) | exact isI.gc (by assumption) | exact isW.gx (by assumption) | exact isW.gF (by assumption) | exact isW.gT (by assumption) (by omega) | exact isW.gS (by assumption) (by omega) | exact isW.gK (by assumption) (by omega) | exact isW.g1 (by assumption) | exact isW.g2 (by assumption) | exact isW.g3 (by assumption) | exact isI.gx (isW.i0 (by assumption)) | exact isI.gc (isW.i0 (by assumption)) | exact isI.gx (isW.i1 (by assumption)) | exact isI.gc (isW.i1 (by assumption)) | exact isI.gx (isW.i2 (by assumption)) | exact isI.gc (isW.i2 (by assumption)) | exact isI.gx (isW.i3 (by assumption)) | exact isI.gc (isW.i3 (by assumption)) | exact isI.gx (isW.i4 (by assumption)) | exact isI.gc (isW.i4 (by assumption)) | exact isI.gx (isW.i5 (by assumption)) | exact isI.gc (isW.i5 (by assumption)) | exact isR.gx (by assumption) | exact isRd.gx (by assumption) | exact isSp.gx (by assumption) | exact isI.gx (isR.i (by assumption)) | exact isI.gx (isRd.i (by assumption)) | exact isI.gc (isRd.i (by assumption)) | exact isI.gx (isSp.i (by assumption)) | exact isW.gx (isR.w (by assumption)) | exact isW.gF (isR.w (by assumption)) | fail "no such object") (by rfl) ?_
    refine r_dup (pc := 14) dX3_leave_14 (by first | rfl | (cases ‹Option Nat› <;> rfl)) ?_
    refine r_getf (pc := 15) dX3_leave_15 fX3_88 (by first | assumption | exact isI.gx (by assumption) | exact isI.gc (by assumption) | exact isW.gx (by assumption) | exact isW.gF (by assumption) | exact isW.gT (by assumption) (by omega) | exact isW.gS (by assumption) (by omega) | exact isW.gK (by assumption) (by omega) | exact isW.g1 (by assumption) | exact isW.g2 (by assumption) | exact isW.g3 (by assumption) | exact isI.gx (isW.i0 (by assumption)) | exact isI.gc (isW.i0 (by assumption)) | exact isI.gx (isW.i1 (by assumption)) | exact isI.gc (isW.i1 (by assumption)) | exact isI.gx (isW.i2 (by assumption)) | exact isI.gc (isW.i2 (by assumption)) | exact isI.gx (isW.i3 (by assumption)) | exact isI.gc (isW.i3 (by assumption)) | exact isI.gx (isW.i4 (by assumption)) | exact isI.gc (isW.i4 (by assumption)) | exact isI.gx (isW.i5 (by assumption)) | exact isI.gc (isW.i5 (by assumption)) | exact isR.gx (by assumption) | exact isRd.gx (by assumption) | exact isSp.gx (by assumption) | exact isI.gx (isR.i (by assumption)) | exact isI.gx (isRd.i (by assumption)) | exact isI.gc (isRd.i (by assumption)) | exact isI.gx (isSp.i (by assumption)) | exact isW.gx (isR.w (by assumption)) | exact isW.gF (isR.w (by assumption)) | fail "no such object") (by rfl) ?_
    refine rj_iconst (pc := 18) dX3_leave_18 ?_
    refine rj_isub (pc := 19) dX3_leave_19 ?_
    refine rc_putz (pc := 20) dX3_leave_20 fX3_88 (by first | assumption | exact isW.i0 (by assumption) | exact isW.i1 (by assumption) | exact isW.i2 (by assumption) | exact isW.i3 (by assumption) | exact isW.i4 (by assumption) | exact isW.i5 (by assumption) | exact isR.i (by assumption) | exact isRd.i (by assumption) | exact isSp.i (by assumption) | fail "no such row") (fun h_20 hI_20 hS_20 => ?_)
    refine r_return (pc := 23) dX3_leave_23 rfl ?_
    exact ⟨rfl, hR.ofI hS_20 hI_20, hS_20.mono (fun q hq => i_rBlk hq)⟩
set_option maxHeartbeats 4000000 in
set_option maxRecDepth 100000 in
theorem cr_taskStep {G : mG} {l : Launch} (d : Nat) {h : mH} {r : Nat} {b z : Int} {f : Nat → Int} {c : Nat → Int} {C : Nat → Nat → Int} {nm : Nat → Int64} {g : Nat → Option Nat} (hR : isR h r b z f c C nm g) (hc : ∀ q, InR (c q)) {q : Nat} (hq : (q : Int) < c 2) (hq2 : q < 10) {s : Nat} {kd num vl : Int} {y : Int64} {inn nx : Option Nat} (hst : c (489 + 9 * q) = 0) (hg : g (181 + 2 * q) = some s) (hs : hGet h s = some (stO kd num vl y inn nx)) (hsr : ¬ rBlk r s) (hkr : InR kd) (hk : ¬ kd = 46) {z' : Int} {f' c' : Nat → Int} {C' : Nat → Nat → Int} {nm' : Nat → Int64} {g' : Nat → Option Nat} (hc' : ∀ q, InR (c' q)) (hz' : InR z') (hz0' : 0 < z') (P : RUNM G l (d + 1) mX3_perform [.ref r, .ref s, .int (J (c (494 + 9 * q)))] h (fun v h' => v = some (.int (J 0)) ∧ isR h' r b z' f' c' C' nm' g' ∧ Same (rBlk r) h h')) : RUNM G l (d + 2) mX3_goOnWithTask [.ref r, .int (J (q : Int))] h (fun v h' => v = none ∧ isR h' r b z' f' (updI c' (488 + 9 * q) (c' (488 + 9 * q) + 1)) C' nm' (updO g' (181 + 2 * q) nx) ∧ Same (rBlk r) h h') := by
  refine RUNM.of (by decide +kernel) (Nat.le_of_ble_eq_true rfl) ?_
  have hW := hR.w
  refine r_aload_n (pc := 0) dX3_goOnWithTask_0 rfl (by first | rfl | exact isRefV_rf _) ?_
  refine r_getf (pc := 1) dX3_goOnWithTask_1 fX3_12 (by first | assumption | exact isI.gx (by assumption) | exact isI.gc (by assumption) | exact isW.gx (by assumption) | exact isW.gF (by assumption) | exact isW.gT (by assumption) (by omega) | exact isW.gS (by assumption) (by omega) | exact isW.gK (by assumption) (by omega) | exact isW.g1 (by assumption) | exact isW.g2 (by assumption) | exact isW.g3 (by assumption) | exact isI.gx (isW.i0 (by assumption)) | exact isI.gc (isW.i0 (by assumption)) | exact isI.gx (isW.i1 (by assumption)) | exact isI.gc (isW.i1 (by assumption)) | exact isI.gx (isW.i2 (by assumption)) | exact isI.gc (isW.i2 (by assumption)) | exact isI.gx (isW.i3 (by assumption)) | exact isI.gc (isW.i3 (by assumption)) | exact isI.gx (isW.i4 (by assumption)) | exact isI.gc (isW.i4 (by assumption)) | exact isI.gx (isW.i5 (by assumption)) | exact isI.gc (isW.i5 (by assumption)) | exact isR.gx (by assumption) | exact isRd.gx (by assumption) | exact isSp.gx (by assumption) | exact isI.gx (isR.i (by assumption)) | exact isI.gx (isRd.i (by assumption)) | exact isI.gc (isRd.i (by assumption)) | exact isI.gx (isSp.i (by assumption)) | exact isW.gx (isR.w (by assumption)) | exact isW.gF (isR.w (by assumption)) | fail "no such object") (by rfl) ?_
  refine r_iload_n (pc := 4) dX3_goOnWithTask_4 rfl ?_
  refine r_callV1 (pc := 5) dX3_goOnWithTask_5 qX9_taskAt kX3_57 vX9_taskAt (by first | assumption | exact isI.gx (by assumption) | exact isI.gc (by assumption) | exact isW.gx (by assumption) | exact isW.gF (by assumption) | exact isW.gT (by assumption) (by omega) | exact isW.gS (by assumption) (by omega) | exact isW.gK (by assumption) (by omega) | exact isW.g1 (by assumption) | exact isW.g2 (by assumption) | exact isW.g3 (by assumption) | exact isI.gx (isW.i0 (by assumption)) | exact isI.gc (isW.i0 (by assumption)) | exact isI.gx (isW.i1 (by assumption)) | exact isI.gc (isW.i1 (by assumption)) | exact isI.gx (isW.i2 (by assumption)) | exact isI.gc (isW.i2 (by assumption)) | exact isI.gx (isW.i3 (by assumption)) | exact isI.gc (isW.i3 (by assumption)) | exact isI.gx (isW.i4 (by assumption)) | exact isI.gc (isW.i4 (by assumption)) | exact isI.gx (isW.i5 (by assumption)) | exact isI.gc (isW.i5 (by assumption)) | exact isR.gx (by assumption) | exact isRd.gx (by assumption) | exact isSp.gx (by assumption) | exact isI.gx (isR.i (by assumption)) | exact isI.gx (isRd.i (by assumption)) | exact isI.gc (isRd.i (by assumption)) | exact isI.gx (isSp.i (by assumption)) | exact isW.gx (isR.w (by assumption)) | exact isW.gF (isR.w (by assumption)) | fail "no such object") rfl rfl (Nat.le_of_ble_eq_true rfl) (cw_taskAt _ hW hc (i := (q : Int)) ⟨by omega, by omega⟩) (fun v_5 h_5 q_5 => ?_)
  obtain ⟨q1_5, rfl⟩ := q_5
  · obtain rfl := tkAt_P (by omega) q1_5
    refine r_astore_n (pc := 8) dX3_goOnWithTask_8 (Nat.le_of_ble_eq_true rfl) (by first | rfl | exact isRefV_rf _) ?_
    dsimp only [lsSt, List.set, mLs, mEnt]
    refine r_aload_n (pc := 9) dX3_goOnWithTask_9 rfl (by first | rfl | exact isRefV_rf _) ?_
    refine r_ifnonnull (pc := 10) (tgt := 18) dX3_goOnWithTask_10 (by decide) (by first | rfl | exact isRefV_rf _) (fun a_10 c_10 => ?_) (fun c_10 => by cases c_10)
    rw [Int.toNat_natCast]
    refine r_aload_n (pc := 18) dX3_goOnWithTask_18 rfl (by first | rfl | exact isRefV_rf _) ?_
    refine r_getf (pc := 19) dX3_goOnWithTask_19 fX3_81 (by first | assumption | exact isI.gx (by assumption) | exact isI.gc (by assumption) | exact isW.gx (by assumption) | exact isW.gF (by assumption) | exact isW.gT (by assumption) (by omega) | exact isW.gS (by assumption) (by omega) | exact isW.gK (by assumption) (by omega) | exact isW.g1 (by assumption) | exact isW.g2 (by assumption) | exact isW.g3 (by assumption) | exact isI.gx (isW.i0 (by assumption)) | exact isI.gc (isW.i0 (by assumption)) | exact isI.gx (isW.i1 (by assumption)) | exact isI.gc (isW.i1 (by assumption)) | exact isI.gx (isW.i2 (by assumption)) | exact isI.gc (isW.i2 (by assumption)) | exact isI.gx (isW.i3 (by assumption)) | exact isI.gc (isW.i3 (by assumption)) | exact isI.gx (isW.i4 (by assumption)) | exact isI.gc (isW.i4 (by assumption)) | exact isI.gx (isW.i5 (by assumption)) | exact isI.gc (isW.i5 (by assumption)) | exact isR.gx (by assumption) | exact isRd.gx (by assumption) | exact isSp.gx (by assumption) | exact isI.gx (isR.i (by assumption)) | exact isI.gx (isRd.i (by assumption)) | exact isI.gc (isRd.i (by assumption)) | exact isI.gx (isSp.i (by assumption)) | exact isW.gx (isR.w (by assumption)) | exact isW.gF (isR.w (by assumption)) | fail "no such object") (by rfl) ?_
    refine rj_if_eq (pc := 22) (tgt := 31) dX3_goOnWithTask_22 (by decide) (by first | exact b01_r | exact bz_r | omega | (constructor <;> omega) | apply_assumption | (apply atF_r; assumption) | fail "no range") (fun c_22 => ?_) (fun c_22 => ?_)
    · try simp only [b01_0, bz_0, Classical.not_not] at c_22
      refine r_aload_n (pc := 31) dX3_goOnWithTask_31 rfl (by first | rfl | exact isRefV_rf _) ?_
      refine r_getf (pc := 32) dX3_goOnWithTask_32 fX3_162 (by first | assumption | exact isI.gx (by assumption) | exact isI.gc (by assumption) | exact isW.gx (by assumption) | exact isW.gF (by assumption) | exact isW.gT (by assumption) (by omega) | exact isW.gS (by assumption) (by omega) | exact isW.gK (by assumption) (by omega) | exact isW.g1 (by assumption) | exact isW.g2 (by assumption) | exact isW.g3 (by assumption) | exact isI.gx (isW.i0 (by assumption)) | exact isI.gc (isW.i0 (by assumption)) | exact isI.gx (isW.i1 (by assumption)) | exact isI.gc (isW.i1 (by assumption)) | exact isI.gx (isW.i2 (by assumption)) | exact isI.gc (isW.i2 (by assumption)) | exact isI.gx (isW.i3 (by assumption)) | exact isI.gc (isW.i3 (by assumption)) | exact isI.gx (isW.i4 (by assumption)) | exact isI.gc (isW.i4 (by assumption)) | exact isI.gx (isW.i5 (by assumption)) | exact isI.gc (isW.i5 (by assumption)) | exact isR.gx (by assumption) | exact isRd.gx (by assumption) | exact isSp.gx (by assumption) | exact isI.gx (isR.i (by assumption)) | exact isI.gx (isRd.i (by assumption)) | exact isI.gc (isRd.i (by assumption)) | exact isI.gx (isSp.i (by assumption)) | exact isW.gx (isR.w (by assumption)) | exact isW.gF (isR.w (by assumption)) | fail "no such object") (by rfl) ?_
      rw [hg, vrs]
      refine r_astore_n (pc := 35) dX3_goOnWithTask_35 (Nat.le_of_ble_eq_true rfl) (by first | rfl | exact isRefV_rf _) ?_
      dsimp only [lsSt, List.set, mLs, mEnt]
      refine r_aload_n (pc := 36) dX3_goOnWithTask_36 rfl (by first | rfl | exact isRefV_rf _) ?_
      refine r_ifnonnull (pc := 37) (tgt := 61) dX3_goOnWithTask_37 (by decide) (by first | rfl | exact isRefV_rf _) (fun a_37 c_37 => ?_) (fun c_37 => by cases c_37)
      refine r_aload_n (pc := 61) dX3_goOnWithTask_61 rfl (by first | rfl | exact isRefV_rf _) ?_
      refine r_aload_n (pc := 62) dX3_goOnWithTask_62 rfl (by first | rfl | exact isRefV_rf _) ?_
      refine r_aload_n (pc := 63) dX3_goOnWithTask_63 rfl (by first | rfl | exact isRefV_rf _) ?_
      refine r_getf (pc := 64) dX3_goOnWithTask_64 fX3_74 (by first | assumption | exact isI.gx (by assumption) | exact isI.gc (by assumption) | exact isW.gx (by assumption) | exact isW.gF (by assumption) | exact isW.gT (by assumption) (by omega) | exact isW.gS (by assumption) (by omega) | exact isW.gK (by assumption) (by omega) | exact isW.g1 (by assumption) | exact isW.g2 (by assumption) | exact isW.g3 (by assumption) | exact isI.gx (isW.i0 (by assumption)) | exact isI.gc (isW.i0 (by assumption)) | exact isI.gx (isW.i1 (by assumption)) | exact isI.gc (isW.i1 (by assumption)) | exact isI.gx (isW.i2 (by assumption)) | exact isI.gc (isW.i2 (by assumption)) | exact isI.gx (isW.i3 (by assumption)) | exact isI.gc (isW.i3 (by assumption)) | exact isI.gx (isW.i4 (by assumption)) | exact isI.gc (isW.i4 (by assumption)) | exact isI.gx (isW.i5 (by assumption)) | exact isI.gc (isW.i5 (by assumption)) | exact isR.gx (by assumption) | exact isRd.gx (by assumption) | exact isSp.gx (by assumption) | exact isI.gx (isR.i (by assumption)) | exact isI.gx (isRd.i (by assumption)) | exact isI.gc (isRd.i (by assumption)) | exact isI.gx (isSp.i (by assumption)) | exact isW.gx (isR.w (by assumption)) | exact isW.gF (isR.w (by assumption)) | fail "no such object") (by rfl) ?_
      refine r_callV2 (pc := 67) dX3_goOnWithTask_67 qX3_perform kX3_147 vX3_perform (by first | assumption | exact isI.gx (by assumption) | exact isI.gc (by assumption) | exact isW.gx (by assumption) | exact isW.gF (by assumption) | exact isW.gT (by assumption) (by omega) | exact isW.gS (by assumption) (by omega) | exact isW.gK (by assumption) (by omega) | exact isW.g1 (by assumption) | exact isW.g2 (by assumption) | exact isW.g3 (by assumption) | exact isI.gx (isW.i0 (by assumption)) | exact isI.gc (isW.i0 (by assumption)) | exact isI.gx (isW.i1 (by assumption)) | exact isI.gc (isW.i1 (by assumption)) | exact isI.gx (isW.i2 (by assumption)) | exact isI.gc (isW.i2 (by assumption)) | exact isI.gx (isW.i3 (by assumption)) | exact isI.gc (isW.i3 (by assumption)) | exact isI.gx (isW.i4 (by assumption)) | exact isI.gc (isW.i4 (by assumption)) | exact isI.gx (isW.i5 (by assumption)) | exact isI.gc (isW.i5 (by assumption)) | exact isR.gx (by assumption) | exact isRd.gx (by assumption) | exact isSp.gx (by assumption) | exact isI.gx (isR.i (by assumption)) | exact isI.gx (isRd.i (by assumption)) | exact isI.gc (isRd.i (by assumption)) | exact isI.gx (isSp.i (by assumption)) | exact isW.gx (isR.w (by assumption)) | exact isW.gF (isR.w (by assumption)) | fail "no such object") rfl rfl (Nat.le_of_ble_eq_true rfl) (P) (fun v_67 h_67 q_67 => ?_)
      obtain ⟨rfl, Q_67, S_67⟩ := q_67
      have W_67 := Q_67.w
      have s_67 := S_67.at hsr hs
      unfold stO at s_67
      refine r_istore (pc := 70) dX3_goOnWithTask_70 (Nat.le_of_ble_eq_true rfl) ?_
      dsimp only [lsSt, List.set, mLs, mEnt]
      refine r_iload (pc := 72) dX3_goOnWithTask_72 rfl ?_
      refine rj_if_eq (pc := 74) (tgt := 89) dX3_goOnWithTask_74 (by decide) (by first | exact b01_r | exact bz_r | omega | (constructor <;> omega) | apply_assumption | (apply atF_r; assumption) | fail "no range") (fun c_74 => ?_) (fun c_74 => ?_)
      · try simp only [b01_0, bz_0, Classical.not_not] at c_74
        refine r_aload_n (pc := 89) dX3_goOnWithTask_89 rfl (by first | rfl | exact isRefV_rf _) ?_
        refine r_aload_n (pc := 90) dX3_goOnWithTask_90 rfl (by first | rfl | exact isRefV_rf _) ?_
        refine r_getf (pc := 91) dX3_goOnWithTask_91 fX3_139 (by first | assumption | exact isI.gx (by assumption) | exact isI.gc (by assumption) | exact isW.gx (by assumption) | exact isW.gF (by assumption) | exact isW.gT (by assumption) (by omega) | exact isW.gS (by assumption) (by omega) | exact isW.gK (by assumption) (by omega) | exact isW.g1 (by assumption) | exact isW.g2 (by assumption) | exact isW.g3 (by assumption) | exact isI.gx (isW.i0 (by assumption)) | exact isI.gc (isW.i0 (by assumption)) | exact isI.gx (isW.i1 (by assumption)) | exact isI.gc (isW.i1 (by assumption)) | exact isI.gx (isW.i2 (by assumption)) | exact isI.gc (isW.i2 (by assumption)) | exact isI.gx (isW.i3 (by assumption)) | exact isI.gc (isW.i3 (by assumption)) | exact isI.gx (isW.i4 (by assumption)) | exact isI.gc (isW.i4 (by assumption)) | exact isI.gx (isW.i5 (by assumption)) | exact isI.gc (isW.i5 (by assumption)) | exact isR.gx (by assumption) | exact isRd.gx (by assumption) | exact isSp.gx (by assumption) | exact isI.gx (isR.i (by assumption)) | exact isI.gx (isRd.i (by assumption)) | exact isI.gc (isRd.i (by assumption)) | exact isI.gx (isSp.i (by assumption)) | exact isW.gx (isR.w (by assumption)) | exact isW.gF (isR.w (by assumption)) | fail "no such object") (by rfl) ?_
        refine rc_putK1 (pc := 94) dX3_goOnWithTask_94 fX3_162 (by assumption) (by omega) (fun h_94 hW_94 hS_94 => ?_)
        refine r_aload_n (pc := 97) dX3_goOnWithTask_97 rfl (by first | rfl | exact isRefV_rf _) ?_
        refine r_dup (pc := 98) dX3_goOnWithTask_98 (by first | rfl | (cases ‹Option Nat› <;> rfl)) ?_
        refine r_getf (pc := 99) dX3_goOnWithTask_99 fX3_166 (by first | assumption | exact isI.gx (by assumption) | exact isI.gc (by assumption) | exact isW.gx (by assumption) | exact isW.gF (by assumption) | exact isW.gT (by assumption) (by omega) | exact isW.gS (by assumption) (by omega) | exact isW.gK (by assumption) (by omega) | exact isW.g1 (by assumption) | exact isW.g2 (by assumption) | exact isW.g3 (by assumption) | exact isI.gx (isW.i0 (by assumption)) | exact isI.gc (isW.i0 (by assumption)) | exact isI.gx (isW.i1 (by assumption)) | exact isI.gc (isW.i1 (by assumption)) | exact isI.gx (isW.i2 (by assumption)) | exact isI.gc (isW.i2 (by assumption)) | exact isI.gx (isW.i3 (by assumption)) | exact isI.gc (isW.i3 (by assumption)) | exact isI.gx (isW.i4 (by assumption)) | exact isI.gc (isW.i4 (by assumption)) | exact isI.gx (isW.i5 (by assumption)) | exact isI.gc (isW.i5 (by assumption)) | exact isR.gx (by assumption) | exact isRd.gx (by assumption) | exact isSp.gx (by assumption) | exact isI.gx (isR.i (by assumption)) | exact isI.gx (isRd.i (by assumption)) | exact isI.gc (isRd.i (by assumption)) | exact isI.gx (isSp.i (by assumption)) | exact isW.gx (isR.w (by assumption)) | exact isW.gF (isR.w (by assumption)) | fail "no such object") (by rfl) ?_
        refine rj_iconst (pc := 102) dX3_goOnWithTask_102 ?_
        refine rj_iadd (pc := 103) dX3_goOnWithTask_103 ?_
        refine rc_putK2 (pc := 104) dX3_goOnWithTask_104 fX3_166 (by assumption) (by omega) (fun h_104 hW_104 hS_104 => ?_)
        have T_104 := Q_67.ofWr (hS_94.trans hS_104) hW_104
        have Q_104 := T_104.1
        have s_104 := T_104.2.at hsr s_67
        refine r_aload_n (pc := 107) dX3_goOnWithTask_107 rfl (by first | rfl | exact isRefV_rf _) ?_
        refine r_getf (pc := 108) dX3_goOnWithTask_108 fX3_169 (by first | assumption | exact isI.gx (by assumption) | exact isI.gc (by assumption) | exact isW.gx (by assumption) | exact isW.gF (by assumption) | exact isW.gT (by assumption) (by omega) | exact isW.gS (by assumption) (by omega) | exact isW.gK (by assumption) (by omega) | exact isW.g1 (by assumption) | exact isW.g2 (by assumption) | exact isW.g3 (by assumption) | exact isI.gx (isW.i0 (by assumption)) | exact isI.gc (isW.i0 (by assumption)) | exact isI.gx (isW.i1 (by assumption)) | exact isI.gc (isW.i1 (by assumption)) | exact isI.gx (isW.i2 (by assumption)) | exact isI.gc (isW.i2 (by assumption)) | exact isI.gx (isW.i3 (by assumption)) | exact isI.gc (isW.i3 (by assumption)) | exact isI.gx (isW.i4 (by assumption)) | exact isI.gc (isW.i4 (by assumption)) | exact isI.gx (isW.i5 (by assumption)) | exact isI.gc (isW.i5 (by assumption)) | exact isR.gx (by assumption) | exact isRd.gx (by assumption) | exact isSp.gx (by assumption) | exact isI.gx (isR.i (by assumption)) | exact isI.gx (isRd.i (by assumption)) | exact isI.gc (isRd.i (by assumption)) | exact isI.gx (isSp.i (by assumption)) | exact isW.gx (isR.w (by assumption)) | exact isW.gF (isR.w (by assumption)) | fail "no such object") (by rfl) ?_
        refine rj_bipush (pc := 111) dX3_goOnWithTask_111 (by decide +kernel) ?_
        refine rj_icmp_ne (pc := 113) (tgt := 127) dX3_goOnWithTask_113 (by decide) (by first | exact b01_r | exact bz_r | omega | (constructor <;> omega) | apply_assumption | (apply atF_r; assumption) | fail "no range") (by first | exact b01_r | exact bz_r | omega | (constructor <;> omega) | apply_assumption | (apply atF_r; assumption) | fail "no range") (fun c_113 => ?_) (fun c_113 => ?_)
        · refine r_return (pc := 127) dX3_goOnWithTask_127 rfl ?_
          exact ⟨rfl, Q_104, S_67.trans T_104.2⟩
        · exact absurd c_113 hk
      · try simp only [b01_0, bz_0, Classical.not_not] at c_74
        exact absurd trivial c_74
    · try simp only [b01_0, bz_0, Classical.not_not] at c_22
      exact absurd hst c_22
set_option maxHeartbeats 4000000 in
set_option maxRecDepth 100000 in
theorem cr_taskLast {G : mG} {l : Launch} (d : Nat) {h : mH} {r : Nat} {b z : Int} {f : Nat → Int} {c : Nat → Int} {C : Nat → Nat → Int} {nm : Nat → Int64} {g : Nat → Option Nat} (hR : isR h r b z f c C nm g) (hc : ∀ q, InR (c q)) {q : Nat} (hq : (q : Int) < c 2) (hq2 : q < 10) {s : Nat} {kd num vl : Int} {y : Int64} {inn : Option Nat} (hst : c (489 + 9 * q) = 0) (hg : g (181 + 2 * q) = some s) (hs : hGet h s = some (stO kd num vl y inn none)) (hsr : ¬ rBlk r s) (hk : kd = 46) {z' : Int} {f' c' : Nat → Int} {C' : Nat → Nat → Int} {nm' : Nat → Int64} {g' : Nat → Option Nat} (hc' : ∀ q, InR (c' q)) (hz' : InR z') (hz0' : 0 < z') (P : RUNM G l (d + 1) mX3_perform [.ref r, .ref s, .int (J (c (494 + 9 * q)))] h (fun v h' => v = some (.int (J 0)) ∧ isR h' r b z' f' c' C' nm' g' ∧ Same (rBlk r) h h')) : RUNM G l (d + 2) mX3_goOnWithTask [.ref r, .int (J (q : Int))] h (fun v h' => v = none ∧ isR h' r b z' f' (updI c' (488 + 9 * q) (c' (488 + 9 * q) + 1)) C' nm' (updO g' (181 + 2 * q) none) ∧ Same (rBlk r) h h') := by
  refine RUNM.of (by decide +kernel) (Nat.le_of_ble_eq_true rfl) ?_
  have hW := hR.w
  refine r_aload_n (pc := 0) dX3_goOnWithTask_0 rfl (by first | rfl | exact isRefV_rf _) ?_
  refine r_getf (pc := 1) dX3_goOnWithTask_1 fX3_12 (by first | assumption | exact isI.gx (by assumption) | exact isI.gc (by assumption) | exact isW.gx (by assumption) | exact isW.gF (by assumption) | exact isW.gT (by assumption) (by omega) | exact isW.gS (by assumption) (by omega) | exact isW.gK (by assumption) (by omega) | exact isW.g1 (by assumption) | exact isW.g2 (by assumption) | exact isW.g3 (by assumption) | exact isI.gx (isW.i0 (by assumption)) | exact isI.gc (isW.i0 (by assumption)) | exact isI.gx (isW.i1 (by assumption)) | exact isI.gc (isW.i1 (by assumption)) | exact isI.gx (isW.i2 (by assumption)) | exact isI.gc (isW.i2 (by assumption)) | exact isI.gx (isW.i3 (by assumption)) | exact isI.gc (isW.i3 (by assumption)) | exact isI.gx (isW.i4 (by assumption)) | exact isI.gc (isW.i4 (by assumption)) | exact isI.gx (isW.i5 (by assumption)) | exact isI.gc (isW.i5 (by assumption)) | exact isR.gx (by assumption) | exact isRd.gx (by assumption) | exact isSp.gx (by assumption) | exact isI.gx (isR.i (by assumption)) | exact isI.gx (isRd.i (by assumption)) | exact isI.gc (isRd.i (by assumption)) | exact isI.gx (isSp.i (by assumption)) | exact isW.gx (isR.w (by assumption)) | exact isW.gF (isR.w (by assumption)) | fail "no such object") (by rfl) ?_
  refine r_iload_n (pc := 4) dX3_goOnWithTask_4 rfl ?_
  refine r_callV1 (pc := 5) dX3_goOnWithTask_5 qX9_taskAt kX3_57 vX9_taskAt (by first | assumption | exact isI.gx (by assumption) | exact isI.gc (by assumption) | exact isW.gx (by assumption) | exact isW.gF (by assumption) | exact isW.gT (by assumption) (by omega) | exact isW.gS (by assumption) (by omega) | exact isW.gK (by assumption) (by omega) | exact isW.g1 (by assumption) | exact isW.g2 (by assumption) | exact isW.g3 (by assumption) | exact isI.gx (isW.i0 (by assumption)) | exact isI.gc (isW.i0 (by assumption)) | exact isI.gx (isW.i1 (by assumption)) | exact isI.gc (isW.i1 (by assumption)) | exact isI.gx (isW.i2 (by assumption)) | exact isI.gc (isW.i2 (by assumption)) | exact isI.gx (isW.i3 (by assumption)) | exact isI.gc (isW.i3 (by assumption)) | exact isI.gx (isW.i4 (by assumption)) | exact isI.gc (isW.i4 (by assumption)) | exact isI.gx (isW.i5 (by assumption)) | exact isI.gc (isW.i5 (by assumption)) | exact isR.gx (by assumption) | exact isRd.gx (by assumption) | exact isSp.gx (by assumption) | exact isI.gx (isR.i (by assumption)) | exact isI.gx (isRd.i (by assumption)) | exact isI.gc (isRd.i (by assumption)) | exact isI.gx (isSp.i (by assumption)) | exact isW.gx (isR.w (by assumption)) | exact isW.gF (isR.w (by assumption)) | fail "no such object") rfl rfl (Nat.le_of_ble_eq_true rfl) (cw_taskAt _ hW hc (i := (q : Int)) ⟨by omega, by omega⟩) (fun v_5 h_5 q_5 => ?_)
  obtain ⟨q1_5, rfl⟩ := q_5
  · obtain rfl := tkAt_P (by omega) q1_5
    refine r_astore_n (pc := 8) dX3_goOnWithTask_8 (Nat.le_of_ble_eq_true rfl) (by first | rfl | exact isRefV_rf _) ?_
    dsimp only [lsSt, List.set, mLs, mEnt]
    refine r_aload_n (pc := 9) dX3_goOnWithTask_9 rfl (by first | rfl | exact isRefV_rf _) ?_
    refine r_ifnonnull (pc := 10) (tgt := 18) dX3_goOnWithTask_10 (by decide) (by first | rfl | exact isRefV_rf _) (fun a_10 c_10 => ?_) (fun c_10 => by cases c_10)
    rw [Int.toNat_natCast]
    refine r_aload_n (pc := 18) dX3_goOnWithTask_18 rfl (by first | rfl | exact isRefV_rf _) ?_
    refine r_getf (pc := 19) dX3_goOnWithTask_19 fX3_81 (by first | assumption | exact isI.gx (by assumption) | exact isI.gc (by assumption) | exact isW.gx (by assumption) | exact isW.gF (by assumption) | exact isW.gT (by assumption) (by omega) | exact isW.gS (by assumption) (by omega) | exact isW.gK (by assumption) (by omega) | exact isW.g1 (by assumption) | exact isW.g2 (by assumption) | exact isW.g3 (by assumption) | exact isI.gx (isW.i0 (by assumption)) | exact isI.gc (isW.i0 (by assumption)) | exact isI.gx (isW.i1 (by assumption)) | exact isI.gc (isW.i1 (by assumption)) | exact isI.gx (isW.i2 (by assumption)) | exact isI.gc (isW.i2 (by assumption)) | exact isI.gx (isW.i3 (by assumption)) | exact isI.gc (isW.i3 (by assumption)) | exact isI.gx (isW.i4 (by assumption)) | exact isI.gc (isW.i4 (by assumption)) | exact isI.gx (isW.i5 (by assumption)) | exact isI.gc (isW.i5 (by assumption)) | exact isR.gx (by assumption) | exact isRd.gx (by assumption) | exact isSp.gx (by assumption) | exact isI.gx (isR.i (by assumption)) | exact isI.gx (isRd.i (by assumption)) | exact isI.gc (isRd.i (by assumption)) | exact isI.gx (isSp.i (by assumption)) | exact isW.gx (isR.w (by assumption)) | exact isW.gF (isR.w (by assumption)) | fail "no such object") (by rfl) ?_
    refine rj_if_eq (pc := 22) (tgt := 31) dX3_goOnWithTask_22 (by decide) (by first | exact b01_r | exact bz_r | omega | (constructor <;> omega) | apply_assumption | (apply atF_r; assumption) | fail "no range") (fun c_22 => ?_) (fun c_22 => ?_)
    · try simp only [b01_0, bz_0, Classical.not_not] at c_22
      refine r_aload_n (pc := 31) dX3_goOnWithTask_31 rfl (by first | rfl | exact isRefV_rf _) ?_
      refine r_getf (pc := 32) dX3_goOnWithTask_32 fX3_162 (by first | assumption | exact isI.gx (by assumption) | exact isI.gc (by assumption) | exact isW.gx (by assumption) | exact isW.gF (by assumption) | exact isW.gT (by assumption) (by omega) | exact isW.gS (by assumption) (by omega) | exact isW.gK (by assumption) (by omega) | exact isW.g1 (by assumption) | exact isW.g2 (by assumption) | exact isW.g3 (by assumption) | exact isI.gx (isW.i0 (by assumption)) | exact isI.gc (isW.i0 (by assumption)) | exact isI.gx (isW.i1 (by assumption)) | exact isI.gc (isW.i1 (by assumption)) | exact isI.gx (isW.i2 (by assumption)) | exact isI.gc (isW.i2 (by assumption)) | exact isI.gx (isW.i3 (by assumption)) | exact isI.gc (isW.i3 (by assumption)) | exact isI.gx (isW.i4 (by assumption)) | exact isI.gc (isW.i4 (by assumption)) | exact isI.gx (isW.i5 (by assumption)) | exact isI.gc (isW.i5 (by assumption)) | exact isR.gx (by assumption) | exact isRd.gx (by assumption) | exact isSp.gx (by assumption) | exact isI.gx (isR.i (by assumption)) | exact isI.gx (isRd.i (by assumption)) | exact isI.gc (isRd.i (by assumption)) | exact isI.gx (isSp.i (by assumption)) | exact isW.gx (isR.w (by assumption)) | exact isW.gF (isR.w (by assumption)) | fail "no such object") (by rfl) ?_
      rw [hg, vrs]
      refine r_astore_n (pc := 35) dX3_goOnWithTask_35 (Nat.le_of_ble_eq_true rfl) (by first | rfl | exact isRefV_rf _) ?_
      dsimp only [lsSt, List.set, mLs, mEnt]
      refine r_aload_n (pc := 36) dX3_goOnWithTask_36 rfl (by first | rfl | exact isRefV_rf _) ?_
      refine r_ifnonnull (pc := 37) (tgt := 61) dX3_goOnWithTask_37 (by decide) (by first | rfl | exact isRefV_rf _) (fun a_37 c_37 => ?_) (fun c_37 => by cases c_37)
      refine r_aload_n (pc := 61) dX3_goOnWithTask_61 rfl (by first | rfl | exact isRefV_rf _) ?_
      refine r_aload_n (pc := 62) dX3_goOnWithTask_62 rfl (by first | rfl | exact isRefV_rf _) ?_
      refine r_aload_n (pc := 63) dX3_goOnWithTask_63 rfl (by first | rfl | exact isRefV_rf _) ?_
      refine r_getf (pc := 64) dX3_goOnWithTask_64 fX3_74 (by first | assumption | exact isI.gx (by assumption) | exact isI.gc (by assumption) | exact isW.gx (by assumption) | exact isW.gF (by assumption) | exact isW.gT (by assumption) (by omega) | exact isW.gS (by assumption) (by omega) | exact isW.gK (by assumption) (by omega) | exact isW.g1 (by assumption) | exact isW.g2 (by assumption) | exact isW.g3 (by assumption) | exact isI.gx (isW.i0 (by assumption)) | exact isI.gc (isW.i0 (by assumption)) | exact isI.gx (isW.i1 (by assumption)) | exact isI.gc (isW.i1 (by assumption)) | exact isI.gx (isW.i2 (by assumption)) | exact isI.gc (isW.i2 (by assumption)) | exact isI.gx (isW.i3 (by assumption)) | exact isI.gc (isW.i3 (by assumption)) | exact isI.gx (isW.i4 (by assumption)) | exact isI.gc (isW.i4 (by assumption)) | exact isI.gx (isW.i5 (by assumption)) | exact isI.gc (isW.i5 (by assumption)) | exact isR.gx (by assumption) | exact isRd.gx (by assumption) | exact isSp.gx (by assumption) | exact isI.gx (isR.i (by assumption)) | exact isI.gx (isRd.i (by assumption)) | exact isI.gc (isRd.i (by assumption)) | exact isI.gx (isSp.i (by assumption)) | exact isW.gx (isR.w (by assumption)) | exact isW.gF (isR.w (by assumption)) | fail "no such object") (by rfl) ?_
      refine r_callV2 (pc := 67) dX3_goOnWithTask_67 qX3_perform kX3_147 vX3_perform (by first | assumption | exact isI.gx (by assumption) | exact isI.gc (by assumption) | exact isW.gx (by assumption) | exact isW.gF (by assumption) | exact isW.gT (by assumption) (by omega) | exact isW.gS (by assumption) (by omega) | exact isW.gK (by assumption) (by omega) | exact isW.g1 (by assumption) | exact isW.g2 (by assumption) | exact isW.g3 (by assumption) | exact isI.gx (isW.i0 (by assumption)) | exact isI.gc (isW.i0 (by assumption)) | exact isI.gx (isW.i1 (by assumption)) | exact isI.gc (isW.i1 (by assumption)) | exact isI.gx (isW.i2 (by assumption)) | exact isI.gc (isW.i2 (by assumption)) | exact isI.gx (isW.i3 (by assumption)) | exact isI.gc (isW.i3 (by assumption)) | exact isI.gx (isW.i4 (by assumption)) | exact isI.gc (isW.i4 (by assumption)) | exact isI.gx (isW.i5 (by assumption)) | exact isI.gc (isW.i5 (by assumption)) | exact isR.gx (by assumption) | exact isRd.gx (by assumption) | exact isSp.gx (by assumption) | exact isI.gx (isR.i (by assumption)) | exact isI.gx (isRd.i (by assumption)) | exact isI.gc (isRd.i (by assumption)) | exact isI.gx (isSp.i (by assumption)) | exact isW.gx (isR.w (by assumption)) | exact isW.gF (isR.w (by assumption)) | fail "no such object") rfl rfl (Nat.le_of_ble_eq_true rfl) (P) (fun v_67 h_67 q_67 => ?_)
      obtain ⟨rfl, Q_67, S_67⟩ := q_67
      have W_67 := Q_67.w
      have s_67 := S_67.at hsr hs
      unfold stO at s_67
      refine r_istore (pc := 70) dX3_goOnWithTask_70 (Nat.le_of_ble_eq_true rfl) ?_
      dsimp only [lsSt, List.set, mLs, mEnt]
      refine r_iload (pc := 72) dX3_goOnWithTask_72 rfl ?_
      refine rj_if_eq (pc := 74) (tgt := 89) dX3_goOnWithTask_74 (by decide) (by first | exact b01_r | exact bz_r | omega | (constructor <;> omega) | apply_assumption | (apply atF_r; assumption) | fail "no range") (fun c_74 => ?_) (fun c_74 => ?_)
      · try simp only [b01_0, bz_0, Classical.not_not] at c_74
        refine r_aload_n (pc := 89) dX3_goOnWithTask_89 rfl (by first | rfl | exact isRefV_rf _) ?_
        refine r_aload_n (pc := 90) dX3_goOnWithTask_90 rfl (by first | rfl | exact isRefV_rf _) ?_
        refine r_getf (pc := 91) dX3_goOnWithTask_91 fX3_139 (by first | assumption | exact isI.gx (by assumption) | exact isI.gc (by assumption) | exact isW.gx (by assumption) | exact isW.gF (by assumption) | exact isW.gT (by assumption) (by omega) | exact isW.gS (by assumption) (by omega) | exact isW.gK (by assumption) (by omega) | exact isW.g1 (by assumption) | exact isW.g2 (by assumption) | exact isW.g3 (by assumption) | exact isI.gx (isW.i0 (by assumption)) | exact isI.gc (isW.i0 (by assumption)) | exact isI.gx (isW.i1 (by assumption)) | exact isI.gc (isW.i1 (by assumption)) | exact isI.gx (isW.i2 (by assumption)) | exact isI.gc (isW.i2 (by assumption)) | exact isI.gx (isW.i3 (by assumption)) | exact isI.gc (isW.i3 (by assumption)) | exact isI.gx (isW.i4 (by assumption)) | exact isI.gc (isW.i4 (by assumption)) | exact isI.gx (isW.i5 (by assumption)) | exact isI.gc (isW.i5 (by assumption)) | exact isR.gx (by assumption) | exact isRd.gx (by assumption) | exact isSp.gx (by assumption) | exact isI.gx (isR.i (by assumption)) | exact isI.gx (isRd.i (by assumption)) | exact isI.gc (isRd.i (by assumption)) | exact isI.gx (isSp.i (by assumption)) | exact isW.gx (isR.w (by assumption)) | exact isW.gF (isR.w (by assumption)) | fail "no such object") (by rfl) ?_
        refine rc_putK1 (pc := 94) dX3_goOnWithTask_94 fX3_162 (by assumption) (by omega) (fun h_94 hW_94 hS_94 => ?_)
        refine r_aload_n (pc := 97) dX3_goOnWithTask_97 rfl (by first | rfl | exact isRefV_rf _) ?_
        refine r_dup (pc := 98) dX3_goOnWithTask_98 (by first | rfl | (cases ‹Option Nat› <;> rfl)) ?_
        refine r_getf (pc := 99) dX3_goOnWithTask_99 fX3_166 (by first | assumption | exact isI.gx (by assumption) | exact isI.gc (by assumption) | exact isW.gx (by assumption) | exact isW.gF (by assumption) | exact isW.gT (by assumption) (by omega) | exact isW.gS (by assumption) (by omega) | exact isW.gK (by assumption) (by omega) | exact isW.g1 (by assumption) | exact isW.g2 (by assumption) | exact isW.g3 (by assumption) | exact isI.gx (isW.i0 (by assumption)) | exact isI.gc (isW.i0 (by assumption)) | exact isI.gx (isW.i1 (by assumption)) | exact isI.gc (isW.i1 (by assumption)) | exact isI.gx (isW.i2 (by assumption)) | exact isI.gc (isW.i2 (by assumption)) | exact isI.gx (isW.i3 (by assumption)) | exact isI.gc (isW.i3 (by assumption)) | exact isI.gx (isW.i4 (by assumption)) | exact isI.gc (isW.i4 (by assumption)) | exact isI.gx (isW.i5 (by assumption)) | exact isI.gc (isW.i5 (by assumption)) | exact isR.gx (by assumption) | exact isRd.gx (by assumption) | exact isSp.gx (by assumption) | exact isI.gx (isR.i (by assumption)) | exact isI.gx (isRd.i (by assumption)) | exact isI.gc (isRd.i (by assumption)) | exact isI.gx (isSp.i (by assumption)) | exact isW.gx (isR.w (by assumption)) | exact isW.gF (isR.w (by assumption)) | fail "no such object") (by rfl) ?_
        refine rj_iconst (pc := 102) dX3_goOnWithTask_102 ?_
        refine rj_iadd (pc := 103) dX3_goOnWithTask_103 ?_
        refine rc_putK2 (pc := 104) dX3_goOnWithTask_104 fX3_166 (by assumption) (by omega) (fun h_104 hW_104 hS_104 => ?_)
        have T_104 := Q_67.ofWr (hS_94.trans hS_104) hW_104
        have Q_104 := T_104.1
        have s_104 := T_104.2.at hsr s_67
        refine r_aload_n (pc := 107) dX3_goOnWithTask_107 rfl (by first | rfl | exact isRefV_rf _) ?_
        refine r_getf (pc := 108) dX3_goOnWithTask_108 fX3_169 (by first | assumption | exact isI.gx (by assumption) | exact isI.gc (by assumption) | exact isW.gx (by assumption) | exact isW.gF (by assumption) | exact isW.gT (by assumption) (by omega) | exact isW.gS (by assumption) (by omega) | exact isW.gK (by assumption) (by omega) | exact isW.g1 (by assumption) | exact isW.g2 (by assumption) | exact isW.g3 (by assumption) | exact isI.gx (isW.i0 (by assumption)) | exact isI.gc (isW.i0 (by assumption)) | exact isI.gx (isW.i1 (by assumption)) | exact isI.gc (isW.i1 (by assumption)) | exact isI.gx (isW.i2 (by assumption)) | exact isI.gc (isW.i2 (by assumption)) | exact isI.gx (isW.i3 (by assumption)) | exact isI.gc (isW.i3 (by assumption)) | exact isI.gx (isW.i4 (by assumption)) | exact isI.gc (isW.i4 (by assumption)) | exact isI.gx (isW.i5 (by assumption)) | exact isI.gc (isW.i5 (by assumption)) | exact isR.gx (by assumption) | exact isRd.gx (by assumption) | exact isSp.gx (by assumption) | exact isI.gx (isR.i (by assumption)) | exact isI.gx (isRd.i (by assumption)) | exact isI.gc (isRd.i (by assumption)) | exact isI.gx (isSp.i (by assumption)) | exact isW.gx (isR.w (by assumption)) | exact isW.gF (isR.w (by assumption)) | fail "no such object") (by rfl) ?_
        refine rj_bipush (pc := 111) dX3_goOnWithTask_111 (by decide +kernel) ?_
        refine rj_icmp_ne (pc := 113) (tgt := 127) dX3_goOnWithTask_113 (by decide) (by first | exact b01_r | exact bz_r | omega | (constructor <;> omega) | apply_assumption | (apply atF_r; assumption) | fail "no range") (by first | exact b01_r | exact bz_r | omega | (constructor <;> omega) | apply_assumption | (apply atF_r; assumption) | fail "no range") (fun c_113 => ?_) (fun c_113 => ?_)
        · refine r_return (pc := 127) dX3_goOnWithTask_127 rfl ?_
          exact ⟨rfl, Q_104, S_67.trans T_104.2⟩
        · refine r_aload_n (pc := 116) dX3_goOnWithTask_116 rfl (by first | rfl | exact isRefV_rf _) ?_
          refine r_getf (pc := 117) dX3_goOnWithTask_117 fX3_139 (by first | assumption | exact isI.gx (by assumption) | exact isI.gc (by assumption) | exact isW.gx (by assumption) | exact isW.gF (by assumption) | exact isW.gT (by assumption) (by omega) | exact isW.gS (by assumption) (by omega) | exact isW.gK (by assumption) (by omega) | exact isW.g1 (by assumption) | exact isW.g2 (by assumption) | exact isW.g3 (by assumption) | exact isI.gx (isW.i0 (by assumption)) | exact isI.gc (isW.i0 (by assumption)) | exact isI.gx (isW.i1 (by assumption)) | exact isI.gc (isW.i1 (by assumption)) | exact isI.gx (isW.i2 (by assumption)) | exact isI.gc (isW.i2 (by assumption)) | exact isI.gx (isW.i3 (by assumption)) | exact isI.gc (isW.i3 (by assumption)) | exact isI.gx (isW.i4 (by assumption)) | exact isI.gc (isW.i4 (by assumption)) | exact isI.gx (isW.i5 (by assumption)) | exact isI.gc (isW.i5 (by assumption)) | exact isR.gx (by assumption) | exact isRd.gx (by assumption) | exact isSp.gx (by assumption) | exact isI.gx (isR.i (by assumption)) | exact isI.gx (isRd.i (by assumption)) | exact isI.gc (isRd.i (by assumption)) | exact isI.gx (isSp.i (by assumption)) | exact isW.gx (isR.w (by assumption)) | exact isW.gF (isR.w (by assumption)) | fail "no such object") (by rfl) ?_
          refine r_ifnull (pc := 120) (tgt := 127) dX3_goOnWithTask_120 (by decide) (by first | rfl | exact isRefV_rf _) (fun c_120 => ?_) (fun a_120 c_120 => by cases c_120)
          refine r_return (pc := 127) dX3_goOnWithTask_127 rfl ?_
          exact ⟨rfl, Q_104, S_67.trans T_104.2⟩
      · try simp only [b01_0, bz_0, Classical.not_not] at c_74
        exact absurd trivial c_74
    · try simp only [b01_0, bz_0, Classical.not_not] at c_22
      exact absurd hst c_22
set_option maxHeartbeats 4000000 in
set_option maxRecDepth 100000 in
theorem cr_taskDot {G : mG} {l : Launch} (d : Nat) {h : mH} {r : Nat} {b z : Int} {f : Nat → Int} {c : Nat → Int} {C : Nat → Nat → Int} {nm : Nat → Int64} {g : Nat → Option Nat} (hR : isR h r b z f c C nm g) (hc : ∀ q, InR (c q)) {q : Nat} (hq : (q : Int) < c 2) (hq2 : q < 10) {s : Nat} {kd num vl : Int} {y : Int64} {inn : Option Nat} {s2 : Nat} (hst : c (489 + 9 * q) = 0) (hg : g (181 + 2 * q) = some s) (hs : hGet h s = some (stO kd num vl y inn (some s2))) (hsr : ¬ rBlk r s) (hk : kd = 46) {z' : Int} {f' c' : Nat → Int} {C' : Nat → Nat → Int} {nm' : Nat → Int64} {g' : Nat → Option Nat} (hc' : ∀ q, InR (c' q)) (hz' : InR z') (hz0' : 0 < z') (P : RUNM G l (d + 1) mX3_perform [.ref r, .ref s, .int (J (c (494 + 9 * q)))] h (fun v h' => v = some (.int (J 0)) ∧ isR h' r b z' f' c' C' nm' g' ∧ Same (rBlk r) h h')) : RUNM G l (d + 2) mX3_goOnWithTask [.ref r, .int (J (q : Int))] h (fun v h' => v = none ∧ isR h' r b (z' - 1) f' (updI c' (488 + 9 * q) (c' (488 + 9 * q) + 1)) C' nm' (updO g' (181 + 2 * q) (some s2)) ∧ Same (rBlk r) h h') := by
  refine RUNM.of (by decide +kernel) (Nat.le_of_ble_eq_true rfl) ?_
  have hW := hR.w
  refine r_aload_n (pc := 0) dX3_goOnWithTask_0 rfl (by first | rfl | exact isRefV_rf _) ?_
  refine r_getf (pc := 1) dX3_goOnWithTask_1 fX3_12 (by first | assumption | exact isI.gx (by assumption) | exact isI.gc (by assumption) | exact isW.gx (by assumption) | exact isW.gF (by assumption) | exact isW.gT (by assumption) (by omega) | exact isW.gS (by assumption) (by omega) | exact isW.gK (by assumption) (by omega) | exact isW.g1 (by assumption) | exact isW.g2 (by assumption) | exact isW.g3 (by assumption) | exact isI.gx (isW.i0 (by assumption)) | exact isI.gc (isW.i0 (by assumption)) | exact isI.gx (isW.i1 (by assumption)) | exact isI.gc (isW.i1 (by assumption)) | exact isI.gx (isW.i2 (by assumption)) | exact isI.gc (isW.i2 (by assumption)) | exact isI.gx (isW.i3 (by assumption)) | exact isI.gc (isW.i3 (by assumption)) | exact isI.gx (isW.i4 (by assumption)) | exact isI.gc (isW.i4 (by assumption)) | exact isI.gx (isW.i5 (by assumption)) | exact isI.gc (isW.i5 (by assumption)) | exact isR.gx (by assumption) | exact isRd.gx (by assumption) | exact isSp.gx (by assumption) | exact isI.gx (isR.i (by assumption)) | exact isI.gx (isRd.i (by assumption)) | exact isI.gc (isRd.i (by assumption)) | exact isI.gx (isSp.i (by assumption)) | exact isW.gx (isR.w (by assumption)) | exact isW.gF (isR.w (by assumption)) | fail "no such object") (by rfl) ?_
  refine r_iload_n (pc := 4) dX3_goOnWithTask_4 rfl ?_
  refine r_callV1 (pc := 5) dX3_goOnWithTask_5 qX9_taskAt kX3_57 vX9_taskAt (by first | assumption | exact isI.gx (by assumption) | exact isI.gc (by assumption) | exact isW.gx (by assumption) | exact isW.gF (by assumption) | exact isW.gT (by assumption) (by omega) | exact isW.gS (by assumption) (by omega) | exact isW.gK (by assumption) (by omega) | exact isW.g1 (by assumption) | exact isW.g2 (by assumption) | exact isW.g3 (by assumption) | exact isI.gx (isW.i0 (by assumption)) | exact isI.gc (isW.i0 (by assumption)) | exact isI.gx (isW.i1 (by assumption)) | exact isI.gc (isW.i1 (by assumption)) | exact isI.gx (isW.i2 (by assumption)) | exact isI.gc (isW.i2 (by assumption)) | exact isI.gx (isW.i3 (by assumption)) | exact isI.gc (isW.i3 (by assumption)) | exact isI.gx (isW.i4 (by assumption)) | exact isI.gc (isW.i4 (by assumption)) | exact isI.gx (isW.i5 (by assumption)) | exact isI.gc (isW.i5 (by assumption)) | exact isR.gx (by assumption) | exact isRd.gx (by assumption) | exact isSp.gx (by assumption) | exact isI.gx (isR.i (by assumption)) | exact isI.gx (isRd.i (by assumption)) | exact isI.gc (isRd.i (by assumption)) | exact isI.gx (isSp.i (by assumption)) | exact isW.gx (isR.w (by assumption)) | exact isW.gF (isR.w (by assumption)) | fail "no such object") rfl rfl (Nat.le_of_ble_eq_true rfl) (cw_taskAt _ hW hc (i := (q : Int)) ⟨by omega, by omega⟩) (fun v_5 h_5 q_5 => ?_)
  obtain ⟨q1_5, rfl⟩ := q_5
  · obtain rfl := tkAt_P (by omega) q1_5
    refine r_astore_n (pc := 8) dX3_goOnWithTask_8 (Nat.le_of_ble_eq_true rfl) (by first | rfl | exact isRefV_rf _) ?_
    dsimp only [lsSt, List.set, mLs, mEnt]
    refine r_aload_n (pc := 9) dX3_goOnWithTask_9 rfl (by first | rfl | exact isRefV_rf _) ?_
    refine r_ifnonnull (pc := 10) (tgt := 18) dX3_goOnWithTask_10 (by decide) (by first | rfl | exact isRefV_rf _) (fun a_10 c_10 => ?_) (fun c_10 => by cases c_10)
    rw [Int.toNat_natCast]
    refine r_aload_n (pc := 18) dX3_goOnWithTask_18 rfl (by first | rfl | exact isRefV_rf _) ?_
    refine r_getf (pc := 19) dX3_goOnWithTask_19 fX3_81 (by first | assumption | exact isI.gx (by assumption) | exact isI.gc (by assumption) | exact isW.gx (by assumption) | exact isW.gF (by assumption) | exact isW.gT (by assumption) (by omega) | exact isW.gS (by assumption) (by omega) | exact isW.gK (by assumption) (by omega) | exact isW.g1 (by assumption) | exact isW.g2 (by assumption) | exact isW.g3 (by assumption) | exact isI.gx (isW.i0 (by assumption)) | exact isI.gc (isW.i0 (by assumption)) | exact isI.gx (isW.i1 (by assumption)) | exact isI.gc (isW.i1 (by assumption)) | exact isI.gx (isW.i2 (by assumption)) | exact isI.gc (isW.i2 (by assumption)) | exact isI.gx (isW.i3 (by assumption)) | exact isI.gc (isW.i3 (by assumption)) | exact isI.gx (isW.i4 (by assumption)) | exact isI.gc (isW.i4 (by assumption)) | exact isI.gx (isW.i5 (by assumption)) | exact isI.gc (isW.i5 (by assumption)) | exact isR.gx (by assumption) | exact isRd.gx (by assumption) | exact isSp.gx (by assumption) | exact isI.gx (isR.i (by assumption)) | exact isI.gx (isRd.i (by assumption)) | exact isI.gc (isRd.i (by assumption)) | exact isI.gx (isSp.i (by assumption)) | exact isW.gx (isR.w (by assumption)) | exact isW.gF (isR.w (by assumption)) | fail "no such object") (by rfl) ?_
    refine rj_if_eq (pc := 22) (tgt := 31) dX3_goOnWithTask_22 (by decide) (by first | exact b01_r | exact bz_r | omega | (constructor <;> omega) | apply_assumption | (apply atF_r; assumption) | fail "no range") (fun c_22 => ?_) (fun c_22 => ?_)
    · try simp only [b01_0, bz_0, Classical.not_not] at c_22
      refine r_aload_n (pc := 31) dX3_goOnWithTask_31 rfl (by first | rfl | exact isRefV_rf _) ?_
      refine r_getf (pc := 32) dX3_goOnWithTask_32 fX3_162 (by first | assumption | exact isI.gx (by assumption) | exact isI.gc (by assumption) | exact isW.gx (by assumption) | exact isW.gF (by assumption) | exact isW.gT (by assumption) (by omega) | exact isW.gS (by assumption) (by omega) | exact isW.gK (by assumption) (by omega) | exact isW.g1 (by assumption) | exact isW.g2 (by assumption) | exact isW.g3 (by assumption) | exact isI.gx (isW.i0 (by assumption)) | exact isI.gc (isW.i0 (by assumption)) | exact isI.gx (isW.i1 (by assumption)) | exact isI.gc (isW.i1 (by assumption)) | exact isI.gx (isW.i2 (by assumption)) | exact isI.gc (isW.i2 (by assumption)) | exact isI.gx (isW.i3 (by assumption)) | exact isI.gc (isW.i3 (by assumption)) | exact isI.gx (isW.i4 (by assumption)) | exact isI.gc (isW.i4 (by assumption)) | exact isI.gx (isW.i5 (by assumption)) | exact isI.gc (isW.i5 (by assumption)) | exact isR.gx (by assumption) | exact isRd.gx (by assumption) | exact isSp.gx (by assumption) | exact isI.gx (isR.i (by assumption)) | exact isI.gx (isRd.i (by assumption)) | exact isI.gc (isRd.i (by assumption)) | exact isI.gx (isSp.i (by assumption)) | exact isW.gx (isR.w (by assumption)) | exact isW.gF (isR.w (by assumption)) | fail "no such object") (by rfl) ?_
      rw [hg, vrs]
      refine r_astore_n (pc := 35) dX3_goOnWithTask_35 (Nat.le_of_ble_eq_true rfl) (by first | rfl | exact isRefV_rf _) ?_
      dsimp only [lsSt, List.set, mLs, mEnt]
      refine r_aload_n (pc := 36) dX3_goOnWithTask_36 rfl (by first | rfl | exact isRefV_rf _) ?_
      refine r_ifnonnull (pc := 37) (tgt := 61) dX3_goOnWithTask_37 (by decide) (by first | rfl | exact isRefV_rf _) (fun a_37 c_37 => ?_) (fun c_37 => by cases c_37)
      refine r_aload_n (pc := 61) dX3_goOnWithTask_61 rfl (by first | rfl | exact isRefV_rf _) ?_
      refine r_aload_n (pc := 62) dX3_goOnWithTask_62 rfl (by first | rfl | exact isRefV_rf _) ?_
      refine r_aload_n (pc := 63) dX3_goOnWithTask_63 rfl (by first | rfl | exact isRefV_rf _) ?_
      refine r_getf (pc := 64) dX3_goOnWithTask_64 fX3_74 (by first | assumption | exact isI.gx (by assumption) | exact isI.gc (by assumption) | exact isW.gx (by assumption) | exact isW.gF (by assumption) | exact isW.gT (by assumption) (by omega) | exact isW.gS (by assumption) (by omega) | exact isW.gK (by assumption) (by omega) | exact isW.g1 (by assumption) | exact isW.g2 (by assumption) | exact isW.g3 (by assumption) | exact isI.gx (isW.i0 (by assumption)) | exact isI.gc (isW.i0 (by assumption)) | exact isI.gx (isW.i1 (by assumption)) | exact isI.gc (isW.i1 (by assumption)) | exact isI.gx (isW.i2 (by assumption)) | exact isI.gc (isW.i2 (by assumption)) | exact isI.gx (isW.i3 (by assumption)) | exact isI.gc (isW.i3 (by assumption)) | exact isI.gx (isW.i4 (by assumption)) | exact isI.gc (isW.i4 (by assumption)) | exact isI.gx (isW.i5 (by assumption)) | exact isI.gc (isW.i5 (by assumption)) | exact isR.gx (by assumption) | exact isRd.gx (by assumption) | exact isSp.gx (by assumption) | exact isI.gx (isR.i (by assumption)) | exact isI.gx (isRd.i (by assumption)) | exact isI.gc (isRd.i (by assumption)) | exact isI.gx (isSp.i (by assumption)) | exact isW.gx (isR.w (by assumption)) | exact isW.gF (isR.w (by assumption)) | fail "no such object") (by rfl) ?_
      refine r_callV2 (pc := 67) dX3_goOnWithTask_67 qX3_perform kX3_147 vX3_perform (by first | assumption | exact isI.gx (by assumption) | exact isI.gc (by assumption) | exact isW.gx (by assumption) | exact isW.gF (by assumption) | exact isW.gT (by assumption) (by omega) | exact isW.gS (by assumption) (by omega) | exact isW.gK (by assumption) (by omega) | exact isW.g1 (by assumption) | exact isW.g2 (by assumption) | exact isW.g3 (by assumption) | exact isI.gx (isW.i0 (by assumption)) | exact isI.gc (isW.i0 (by assumption)) | exact isI.gx (isW.i1 (by assumption)) | exact isI.gc (isW.i1 (by assumption)) | exact isI.gx (isW.i2 (by assumption)) | exact isI.gc (isW.i2 (by assumption)) | exact isI.gx (isW.i3 (by assumption)) | exact isI.gc (isW.i3 (by assumption)) | exact isI.gx (isW.i4 (by assumption)) | exact isI.gc (isW.i4 (by assumption)) | exact isI.gx (isW.i5 (by assumption)) | exact isI.gc (isW.i5 (by assumption)) | exact isR.gx (by assumption) | exact isRd.gx (by assumption) | exact isSp.gx (by assumption) | exact isI.gx (isR.i (by assumption)) | exact isI.gx (isRd.i (by assumption)) | exact isI.gc (isRd.i (by assumption)) | exact isI.gx (isSp.i (by assumption)) | exact isW.gx (isR.w (by assumption)) | exact isW.gF (isR.w (by assumption)) | fail "no such object") rfl rfl (Nat.le_of_ble_eq_true rfl) (P) (fun v_67 h_67 q_67 => ?_)
      obtain ⟨rfl, Q_67, S_67⟩ := q_67
      have W_67 := Q_67.w
      have s_67 := S_67.at hsr hs
      unfold stO at s_67
      refine r_istore (pc := 70) dX3_goOnWithTask_70 (Nat.le_of_ble_eq_true rfl) ?_
      dsimp only [lsSt, List.set, mLs, mEnt]
      refine r_iload (pc := 72) dX3_goOnWithTask_72 rfl ?_
      refine rj_if_eq (pc := 74) (tgt := 89) dX3_goOnWithTask_74 (by decide) (by first | exact b01_r | exact bz_r | omega | (constructor <;> omega) | apply_assumption | (apply atF_r; assumption) | fail "no range") (fun c_74 => ?_) (fun c_74 => ?_)
      · try simp only [b01_0, bz_0, Classical.not_not] at c_74
        refine r_aload_n (pc := 89) dX3_goOnWithTask_89 rfl (by first | rfl | exact isRefV_rf _) ?_
        refine r_aload_n (pc := 90) dX3_goOnWithTask_90 rfl (by first | rfl | exact isRefV_rf _) ?_
        refine r_getf (pc := 91) dX3_goOnWithTask_91 fX3_139 (by first | assumption | exact isI.gx (by assumption) | exact isI.gc (by assumption) | exact isW.gx (by assumption) | exact isW.gF (by assumption) | exact isW.gT (by assumption) (by omega) | exact isW.gS (by assumption) (by omega) | exact isW.gK (by assumption) (by omega) | exact isW.g1 (by assumption) | exact isW.g2 (by assumption) | exact isW.g3 (by assumption) | exact isI.gx (isW.i0 (by assumption)) | exact isI.gc (isW.i0 (by assumption)) | exact isI.gx (isW.i1 (by assumption)) | exact isI.gc (isW.i1 (by assumption)) | exact isI.gx (isW.i2 (by assumption)) | exact isI.gc (isW.i2 (by assumption)) | exact isI.gx (isW.i3 (by assumption)) | exact isI.gc (isW.i3 (by assumption)) | exact isI.gx (isW.i4 (by assumption)) | exact isI.gc (isW.i4 (by assumption)) | exact isI.gx (isW.i5 (by assumption)) | exact isI.gc (isW.i5 (by assumption)) | exact isR.gx (by assumption) | exact isRd.gx (by assumption) | exact isSp.gx (by assumption) | exact isI.gx (isR.i (by assumption)) | exact isI.gx (isRd.i (by assumption)) | exact isI.gc (isRd.i (by assumption)) | exact isI.gx (isSp.i (by assumption)) | exact isW.gx (isR.w (by assumption)) | exact isW.gF (isR.w (by assumption)) | fail "no such object") (by rfl) ?_
        refine rc_putK1 (pc := 94) dX3_goOnWithTask_94 fX3_162 (by assumption) (by omega) (fun h_94 hW_94 hS_94 => ?_)
        refine r_aload_n (pc := 97) dX3_goOnWithTask_97 rfl (by first | rfl | exact isRefV_rf _) ?_
        refine r_dup (pc := 98) dX3_goOnWithTask_98 (by first | rfl | (cases ‹Option Nat› <;> rfl)) ?_
        refine r_getf (pc := 99) dX3_goOnWithTask_99 fX3_166 (by first | assumption | exact isI.gx (by assumption) | exact isI.gc (by assumption) | exact isW.gx (by assumption) | exact isW.gF (by assumption) | exact isW.gT (by assumption) (by omega) | exact isW.gS (by assumption) (by omega) | exact isW.gK (by assumption) (by omega) | exact isW.g1 (by assumption) | exact isW.g2 (by assumption) | exact isW.g3 (by assumption) | exact isI.gx (isW.i0 (by assumption)) | exact isI.gc (isW.i0 (by assumption)) | exact isI.gx (isW.i1 (by assumption)) | exact isI.gc (isW.i1 (by assumption)) | exact isI.gx (isW.i2 (by assumption)) | exact isI.gc (isW.i2 (by assumption)) | exact isI.gx (isW.i3 (by assumption)) | exact isI.gc (isW.i3 (by assumption)) | exact isI.gx (isW.i4 (by assumption)) | exact isI.gc (isW.i4 (by assumption)) | exact isI.gx (isW.i5 (by assumption)) | exact isI.gc (isW.i5 (by assumption)) | exact isR.gx (by assumption) | exact isRd.gx (by assumption) | exact isSp.gx (by assumption) | exact isI.gx (isR.i (by assumption)) | exact isI.gx (isRd.i (by assumption)) | exact isI.gc (isRd.i (by assumption)) | exact isI.gx (isSp.i (by assumption)) | exact isW.gx (isR.w (by assumption)) | exact isW.gF (isR.w (by assumption)) | fail "no such object") (by rfl) ?_
        refine rj_iconst (pc := 102) dX3_goOnWithTask_102 ?_
        refine rj_iadd (pc := 103) dX3_goOnWithTask_103 ?_
        refine rc_putK2 (pc := 104) dX3_goOnWithTask_104 fX3_166 (by assumption) (by omega) (fun h_104 hW_104 hS_104 => ?_)
        have T_104 := Q_67.ofWr (hS_94.trans hS_104) hW_104
        have Q_104 := T_104.1
        have s_104 := T_104.2.at hsr s_67
        refine r_aload_n (pc := 107) dX3_goOnWithTask_107 rfl (by first | rfl | exact isRefV_rf _) ?_
        refine r_getf (pc := 108) dX3_goOnWithTask_108 fX3_169 (by first | assumption | exact isI.gx (by assumption) | exact isI.gc (by assumption) | exact isW.gx (by assumption) | exact isW.gF (by assumption) | exact isW.gT (by assumption) (by omega) | exact isW.gS (by assumption) (by omega) | exact isW.gK (by assumption) (by omega) | exact isW.g1 (by assumption) | exact isW.g2 (by assumption) | exact isW.g3 (by assumption) | exact isI.gx (isW.i0 (by assumption)) | exact isI.gc (isW.i0 (by assumption)) | exact isI.gx (isW.i1 (by assumption)) | exact isI.gc (isW.i1 (by assumption)) | exact isI.gx (isW.i2 (by assumption)) | exact isI.gc (isW.i2 (by assumption)) | exact isI.gx (isW.i3 (by assumption)) | exact isI.gc (isW.i3 (by assumption)) | exact isI.gx (isW.i4 (by assumption)) | exact isI.gc (isW.i4 (by assumption)) | exact isI.gx (isW.i5 (by assumption)) | exact isI.gc (isW.i5 (by assumption)) | exact isR.gx (by assumption) | exact isRd.gx (by assumption) | exact isSp.gx (by assumption) | exact isI.gx (isR.i (by assumption)) | exact isI.gx (isRd.i (by assumption)) | exact isI.gc (isRd.i (by assumption)) | exact isI.gx (isSp.i (by assumption)) | exact isW.gx (isR.w (by assumption)) | exact isW.gF (isR.w (by assumption)) | fail "no such object") (by rfl) ?_
        refine rj_bipush (pc := 111) dX3_goOnWithTask_111 (by decide +kernel) ?_
        refine rj_icmp_ne (pc := 113) (tgt := 127) dX3_goOnWithTask_113 (by decide) (by first | exact b01_r | exact bz_r | omega | (constructor <;> omega) | apply_assumption | (apply atF_r; assumption) | fail "no range") (by first | exact b01_r | exact bz_r | omega | (constructor <;> omega) | apply_assumption | (apply atF_r; assumption) | fail "no range") (fun c_113 => ?_) (fun c_113 => ?_)
        · exact absurd hk c_113
        · refine r_aload_n (pc := 116) dX3_goOnWithTask_116 rfl (by first | rfl | exact isRefV_rf _) ?_
          refine r_getf (pc := 117) dX3_goOnWithTask_117 fX3_139 (by first | assumption | exact isI.gx (by assumption) | exact isI.gc (by assumption) | exact isW.gx (by assumption) | exact isW.gF (by assumption) | exact isW.gT (by assumption) (by omega) | exact isW.gS (by assumption) (by omega) | exact isW.gK (by assumption) (by omega) | exact isW.g1 (by assumption) | exact isW.g2 (by assumption) | exact isW.g3 (by assumption) | exact isI.gx (isW.i0 (by assumption)) | exact isI.gc (isW.i0 (by assumption)) | exact isI.gx (isW.i1 (by assumption)) | exact isI.gc (isW.i1 (by assumption)) | exact isI.gx (isW.i2 (by assumption)) | exact isI.gc (isW.i2 (by assumption)) | exact isI.gx (isW.i3 (by assumption)) | exact isI.gc (isW.i3 (by assumption)) | exact isI.gx (isW.i4 (by assumption)) | exact isI.gc (isW.i4 (by assumption)) | exact isI.gx (isW.i5 (by assumption)) | exact isI.gc (isW.i5 (by assumption)) | exact isR.gx (by assumption) | exact isRd.gx (by assumption) | exact isSp.gx (by assumption) | exact isI.gx (isR.i (by assumption)) | exact isI.gx (isRd.i (by assumption)) | exact isI.gc (isRd.i (by assumption)) | exact isI.gx (isSp.i (by assumption)) | exact isW.gx (isR.w (by assumption)) | exact isW.gF (isR.w (by assumption)) | fail "no such object") (by rfl) ?_
          refine r_ifnull (pc := 120) (tgt := 127) dX3_goOnWithTask_120 (by decide) (by first | rfl | exact isRefV_rf _) (fun c_120 => by cases c_120) (fun a_120 c_120 => ?_)
          refine r_aload_n (pc := 123) dX3_goOnWithTask_123 rfl (by first | rfl | exact isRefV_rf _) ?_
          refine r_callV0 (pc := 124) dX3_goOnWithTask_124 qX3_leave kX3_124 vX3_leave (by first | assumption | exact isI.gx (by assumption) | exact isI.gc (by assumption) | exact isW.gx (by assumption) | exact isW.gF (by assumption) | exact isW.gT (by assumption) (by omega) | exact isW.gS (by assumption) (by omega) | exact isW.gK (by assumption) (by omega) | exact isW.g1 (by assumption) | exact isW.g2 (by assumption) | exact isW.g3 (by assumption) | exact isI.gx (isW.i0 (by assumption)) | exact isI.gc (isW.i0 (by assumption)) | exact isI.gx (isW.i1 (by assumption)) | exact isI.gc (isW.i1 (by assumption)) | exact isI.gx (isW.i2 (by assumption)) | exact isI.gc (isW.i2 (by assumption)) | exact isI.gx (isW.i3 (by assumption)) | exact isI.gc (isW.i3 (by assumption)) | exact isI.gx (isW.i4 (by assumption)) | exact isI.gc (isW.i4 (by assumption)) | exact isI.gx (isW.i5 (by assumption)) | exact isI.gc (isW.i5 (by assumption)) | exact isR.gx (by assumption) | exact isRd.gx (by assumption) | exact isSp.gx (by assumption) | exact isI.gx (isR.i (by assumption)) | exact isI.gx (isRd.i (by assumption)) | exact isI.gc (isRd.i (by assumption)) | exact isI.gx (isSp.i (by assumption)) | exact isW.gx (isR.w (by assumption)) | exact isW.gF (isR.w (by assumption)) | fail "no such object") rfl rfl (Nat.le_of_ble_eq_true rfl) (cr_leave0 _ Q_104 hz' hz0') (fun v_124 h_124 q_124 => ?_)
          obtain ⟨rfl, Q_124, S_124⟩ := q_124
          refine r_return (pc := 127) dX3_goOnWithTask_127 rfl ?_
          exact ⟨rfl, Q_124, (S_67.trans T_104.2).trans S_124⟩
      · try simp only [b01_0, bz_0, Classical.not_not] at c_74
        exact absurd trivial c_74
    · try simp only [b01_0, bz_0, Classical.not_not] at c_22
      exact absurd hst c_22
set_option maxHeartbeats 4000000 in
set_option maxRecDepth 100000 in
theorem cr_taskFault {G : mG} {l : Launch} (d : Nat) {h : mH} {r : Nat} {b z : Int} {f : Nat → Int} {c : Nat → Int} {C : Nat → Nat → Int} {nm : Nat → Int64} {g : Nat → Option Nat} (hR : isR h r b z f c C nm g) (hc : ∀ q, InR (c q)) {q : Nat} (hq : (q : Int) < c 2) (hq2 : q < 10) {s : Nat} {kd num vl : Int} {y : Int64} {inn nx : Option Nat} (hst : c (489 + 9 * q) = 0) (hg : g (181 + 2 * q) = some s) (hs : hGet h s = some (stO kd num vl y inn nx)) (hsr : ¬ rBlk r s) {j : Int} (hj : InR j) (hj0 : ¬ j = 0) (P : RUNM G l (d + 1) mX3_perform [.ref r, .ref s, .int (J (c (494 + 9 * q)))] h (fun v h' => v = some (.int (J j)) ∧ h' = h)) : RUNM G l (d + 2) mX3_goOnWithTask [.ref r, .int (J (q : Int))] h (fun v h' => v = none ∧ isR h' r b z f (updI (updI c (495 + 9 * q) j) (489 + 9 * q) 2) C nm g ∧ Same (rBlk r) h h') := by
  refine RUNM.of (by decide +kernel) (Nat.le_of_ble_eq_true rfl) ?_
  have hW := hR.w
  refine r_aload_n (pc := 0) dX3_goOnWithTask_0 rfl (by first | rfl | exact isRefV_rf _) ?_
  refine r_getf (pc := 1) dX3_goOnWithTask_1 fX3_12 (by first | assumption | exact isI.gx (by assumption) | exact isI.gc (by assumption) | exact isW.gx (by assumption) | exact isW.gF (by assumption) | exact isW.gT (by assumption) (by omega) | exact isW.gS (by assumption) (by omega) | exact isW.gK (by assumption) (by omega) | exact isW.g1 (by assumption) | exact isW.g2 (by assumption) | exact isW.g3 (by assumption) | exact isI.gx (isW.i0 (by assumption)) | exact isI.gc (isW.i0 (by assumption)) | exact isI.gx (isW.i1 (by assumption)) | exact isI.gc (isW.i1 (by assumption)) | exact isI.gx (isW.i2 (by assumption)) | exact isI.gc (isW.i2 (by assumption)) | exact isI.gx (isW.i3 (by assumption)) | exact isI.gc (isW.i3 (by assumption)) | exact isI.gx (isW.i4 (by assumption)) | exact isI.gc (isW.i4 (by assumption)) | exact isI.gx (isW.i5 (by assumption)) | exact isI.gc (isW.i5 (by assumption)) | exact isR.gx (by assumption) | exact isRd.gx (by assumption) | exact isSp.gx (by assumption) | exact isI.gx (isR.i (by assumption)) | exact isI.gx (isRd.i (by assumption)) | exact isI.gc (isRd.i (by assumption)) | exact isI.gx (isSp.i (by assumption)) | exact isW.gx (isR.w (by assumption)) | exact isW.gF (isR.w (by assumption)) | fail "no such object") (by rfl) ?_
  refine r_iload_n (pc := 4) dX3_goOnWithTask_4 rfl ?_
  refine r_callV1 (pc := 5) dX3_goOnWithTask_5 qX9_taskAt kX3_57 vX9_taskAt (by first | assumption | exact isI.gx (by assumption) | exact isI.gc (by assumption) | exact isW.gx (by assumption) | exact isW.gF (by assumption) | exact isW.gT (by assumption) (by omega) | exact isW.gS (by assumption) (by omega) | exact isW.gK (by assumption) (by omega) | exact isW.g1 (by assumption) | exact isW.g2 (by assumption) | exact isW.g3 (by assumption) | exact isI.gx (isW.i0 (by assumption)) | exact isI.gc (isW.i0 (by assumption)) | exact isI.gx (isW.i1 (by assumption)) | exact isI.gc (isW.i1 (by assumption)) | exact isI.gx (isW.i2 (by assumption)) | exact isI.gc (isW.i2 (by assumption)) | exact isI.gx (isW.i3 (by assumption)) | exact isI.gc (isW.i3 (by assumption)) | exact isI.gx (isW.i4 (by assumption)) | exact isI.gc (isW.i4 (by assumption)) | exact isI.gx (isW.i5 (by assumption)) | exact isI.gc (isW.i5 (by assumption)) | exact isR.gx (by assumption) | exact isRd.gx (by assumption) | exact isSp.gx (by assumption) | exact isI.gx (isR.i (by assumption)) | exact isI.gx (isRd.i (by assumption)) | exact isI.gc (isRd.i (by assumption)) | exact isI.gx (isSp.i (by assumption)) | exact isW.gx (isR.w (by assumption)) | exact isW.gF (isR.w (by assumption)) | fail "no such object") rfl rfl (Nat.le_of_ble_eq_true rfl) (cw_taskAt _ hW hc (i := (q : Int)) ⟨by omega, by omega⟩) (fun v_5 h_5 q_5 => ?_)
  obtain ⟨q1_5, rfl⟩ := q_5
  · obtain rfl := tkAt_P (by omega) q1_5
    refine r_astore_n (pc := 8) dX3_goOnWithTask_8 (Nat.le_of_ble_eq_true rfl) (by first | rfl | exact isRefV_rf _) ?_
    dsimp only [lsSt, List.set, mLs, mEnt]
    refine r_aload_n (pc := 9) dX3_goOnWithTask_9 rfl (by first | rfl | exact isRefV_rf _) ?_
    refine r_ifnonnull (pc := 10) (tgt := 18) dX3_goOnWithTask_10 (by decide) (by first | rfl | exact isRefV_rf _) (fun a_10 c_10 => ?_) (fun c_10 => by cases c_10)
    rw [Int.toNat_natCast]
    refine r_aload_n (pc := 18) dX3_goOnWithTask_18 rfl (by first | rfl | exact isRefV_rf _) ?_
    refine r_getf (pc := 19) dX3_goOnWithTask_19 fX3_81 (by first | assumption | exact isI.gx (by assumption) | exact isI.gc (by assumption) | exact isW.gx (by assumption) | exact isW.gF (by assumption) | exact isW.gT (by assumption) (by omega) | exact isW.gS (by assumption) (by omega) | exact isW.gK (by assumption) (by omega) | exact isW.g1 (by assumption) | exact isW.g2 (by assumption) | exact isW.g3 (by assumption) | exact isI.gx (isW.i0 (by assumption)) | exact isI.gc (isW.i0 (by assumption)) | exact isI.gx (isW.i1 (by assumption)) | exact isI.gc (isW.i1 (by assumption)) | exact isI.gx (isW.i2 (by assumption)) | exact isI.gc (isW.i2 (by assumption)) | exact isI.gx (isW.i3 (by assumption)) | exact isI.gc (isW.i3 (by assumption)) | exact isI.gx (isW.i4 (by assumption)) | exact isI.gc (isW.i4 (by assumption)) | exact isI.gx (isW.i5 (by assumption)) | exact isI.gc (isW.i5 (by assumption)) | exact isR.gx (by assumption) | exact isRd.gx (by assumption) | exact isSp.gx (by assumption) | exact isI.gx (isR.i (by assumption)) | exact isI.gx (isRd.i (by assumption)) | exact isI.gc (isRd.i (by assumption)) | exact isI.gx (isSp.i (by assumption)) | exact isW.gx (isR.w (by assumption)) | exact isW.gF (isR.w (by assumption)) | fail "no such object") (by rfl) ?_
    refine rj_if_eq (pc := 22) (tgt := 31) dX3_goOnWithTask_22 (by decide) (by first | exact b01_r | exact bz_r | omega | (constructor <;> omega) | apply_assumption | (apply atF_r; assumption) | fail "no range") (fun c_22 => ?_) (fun c_22 => ?_)
    · try simp only [b01_0, bz_0, Classical.not_not] at c_22
      refine r_aload_n (pc := 31) dX3_goOnWithTask_31 rfl (by first | rfl | exact isRefV_rf _) ?_
      refine r_getf (pc := 32) dX3_goOnWithTask_32 fX3_162 (by first | assumption | exact isI.gx (by assumption) | exact isI.gc (by assumption) | exact isW.gx (by assumption) | exact isW.gF (by assumption) | exact isW.gT (by assumption) (by omega) | exact isW.gS (by assumption) (by omega) | exact isW.gK (by assumption) (by omega) | exact isW.g1 (by assumption) | exact isW.g2 (by assumption) | exact isW.g3 (by assumption) | exact isI.gx (isW.i0 (by assumption)) | exact isI.gc (isW.i0 (by assumption)) | exact isI.gx (isW.i1 (by assumption)) | exact isI.gc (isW.i1 (by assumption)) | exact isI.gx (isW.i2 (by assumption)) | exact isI.gc (isW.i2 (by assumption)) | exact isI.gx (isW.i3 (by assumption)) | exact isI.gc (isW.i3 (by assumption)) | exact isI.gx (isW.i4 (by assumption)) | exact isI.gc (isW.i4 (by assumption)) | exact isI.gx (isW.i5 (by assumption)) | exact isI.gc (isW.i5 (by assumption)) | exact isR.gx (by assumption) | exact isRd.gx (by assumption) | exact isSp.gx (by assumption) | exact isI.gx (isR.i (by assumption)) | exact isI.gx (isRd.i (by assumption)) | exact isI.gc (isRd.i (by assumption)) | exact isI.gx (isSp.i (by assumption)) | exact isW.gx (isR.w (by assumption)) | exact isW.gF (isR.w (by assumption)) | fail "no such object") (by rfl) ?_
      rw [hg, vrs]
      refine r_astore_n (pc := 35) dX3_goOnWithTask_35 (Nat.le_of_ble_eq_true rfl) (by first | rfl | exact isRefV_rf _) ?_
      dsimp only [lsSt, List.set, mLs, mEnt]
      refine r_aload_n (pc := 36) dX3_goOnWithTask_36 rfl (by first | rfl | exact isRefV_rf _) ?_
      refine r_ifnonnull (pc := 37) (tgt := 61) dX3_goOnWithTask_37 (by decide) (by first | rfl | exact isRefV_rf _) (fun a_37 c_37 => ?_) (fun c_37 => by cases c_37)
      refine r_aload_n (pc := 61) dX3_goOnWithTask_61 rfl (by first | rfl | exact isRefV_rf _) ?_
      refine r_aload_n (pc := 62) dX3_goOnWithTask_62 rfl (by first | rfl | exact isRefV_rf _) ?_
      refine r_aload_n (pc := 63) dX3_goOnWithTask_63 rfl (by first | rfl | exact isRefV_rf _) ?_
      refine r_getf (pc := 64) dX3_goOnWithTask_64 fX3_74 (by first | assumption | exact isI.gx (by assumption) | exact isI.gc (by assumption) | exact isW.gx (by assumption) | exact isW.gF (by assumption) | exact isW.gT (by assumption) (by omega) | exact isW.gS (by assumption) (by omega) | exact isW.gK (by assumption) (by omega) | exact isW.g1 (by assumption) | exact isW.g2 (by assumption) | exact isW.g3 (by assumption) | exact isI.gx (isW.i0 (by assumption)) | exact isI.gc (isW.i0 (by assumption)) | exact isI.gx (isW.i1 (by assumption)) | exact isI.gc (isW.i1 (by assumption)) | exact isI.gx (isW.i2 (by assumption)) | exact isI.gc (isW.i2 (by assumption)) | exact isI.gx (isW.i3 (by assumption)) | exact isI.gc (isW.i3 (by assumption)) | exact isI.gx (isW.i4 (by assumption)) | exact isI.gc (isW.i4 (by assumption)) | exact isI.gx (isW.i5 (by assumption)) | exact isI.gc (isW.i5 (by assumption)) | exact isR.gx (by assumption) | exact isRd.gx (by assumption) | exact isSp.gx (by assumption) | exact isI.gx (isR.i (by assumption)) | exact isI.gx (isRd.i (by assumption)) | exact isI.gc (isRd.i (by assumption)) | exact isI.gx (isSp.i (by assumption)) | exact isW.gx (isR.w (by assumption)) | exact isW.gF (isR.w (by assumption)) | fail "no such object") (by rfl) ?_
      refine r_callV2 (pc := 67) dX3_goOnWithTask_67 qX3_perform kX3_147 vX3_perform (by first | assumption | exact isI.gx (by assumption) | exact isI.gc (by assumption) | exact isW.gx (by assumption) | exact isW.gF (by assumption) | exact isW.gT (by assumption) (by omega) | exact isW.gS (by assumption) (by omega) | exact isW.gK (by assumption) (by omega) | exact isW.g1 (by assumption) | exact isW.g2 (by assumption) | exact isW.g3 (by assumption) | exact isI.gx (isW.i0 (by assumption)) | exact isI.gc (isW.i0 (by assumption)) | exact isI.gx (isW.i1 (by assumption)) | exact isI.gc (isW.i1 (by assumption)) | exact isI.gx (isW.i2 (by assumption)) | exact isI.gc (isW.i2 (by assumption)) | exact isI.gx (isW.i3 (by assumption)) | exact isI.gc (isW.i3 (by assumption)) | exact isI.gx (isW.i4 (by assumption)) | exact isI.gc (isW.i4 (by assumption)) | exact isI.gx (isW.i5 (by assumption)) | exact isI.gc (isW.i5 (by assumption)) | exact isR.gx (by assumption) | exact isRd.gx (by assumption) | exact isSp.gx (by assumption) | exact isI.gx (isR.i (by assumption)) | exact isI.gx (isRd.i (by assumption)) | exact isI.gc (isRd.i (by assumption)) | exact isI.gx (isSp.i (by assumption)) | exact isW.gx (isR.w (by assumption)) | exact isW.gF (isR.w (by assumption)) | fail "no such object") rfl rfl (Nat.le_of_ble_eq_true rfl) (P) (fun v_67 h_67 q_67 => ?_)
      obtain ⟨rfl, rfl⟩ := q_67
      refine r_istore (pc := 70) dX3_goOnWithTask_70 (Nat.le_of_ble_eq_true rfl) ?_
      dsimp only [lsSt, List.set, mLs, mEnt]
      refine r_iload (pc := 72) dX3_goOnWithTask_72 rfl ?_
      refine rj_if_eq (pc := 74) (tgt := 89) dX3_goOnWithTask_74 (by decide) (by first | exact b01_r | exact bz_r | omega | (constructor <;> omega) | apply_assumption | (apply atF_r; assumption) | fail "no range") (fun c_74 => ?_) (fun c_74 => ?_)
      · try simp only [b01_0, bz_0, Classical.not_not] at c_74
        exact absurd c_74 hj0
      · try simp only [b01_0, bz_0, Classical.not_not] at c_74
        refine r_aload_n (pc := 77) dX3_goOnWithTask_77 rfl (by first | rfl | exact isRefV_rf _) ?_
        refine r_iload (pc := 78) dX3_goOnWithTask_78 rfl ?_
        refine rc_putK9 (pc := 80) dX3_goOnWithTask_80 fX3_163 (by assumption) (by omega) (fun h_80 hW_80 hS_80 => ?_)
        refine r_aload_n (pc := 83) dX3_goOnWithTask_83 rfl (by first | rfl | exact isRefV_rf _) ?_
        refine rj_iconst (pc := 84) dX3_goOnWithTask_84 ?_
        refine rc_putK3 (pc := 85) dX3_goOnWithTask_85 fX3_81 (by assumption) (by omega) (fun h_85 hW_85 hS_85 => ?_)
        refine r_return (pc := 88) dX3_goOnWithTask_88 rfl ?_
        exact ⟨rfl, (hR.ofWr (hS_80.trans hS_85) hW_85).1, (hR.ofWr (hS_80.trans hS_85) hW_85).2⟩
    · try simp only [b01_0, bz_0, Classical.not_not] at c_22
      exact absurd hst c_22
end mg_9e
section mg_9f
/-! ===== the class: turns begin; the loop of its work ===== -/
set_option maxHeartbeats 4000000 in
set_option maxRecDepth 100000 in
theorem cr_noTurn {G : mG} {l : Launch} (d : Nat) {h : mH} {r : Nat} {b z : Int} {f : Nat → Int} {c : Nat → Int} {C : Nat → Nat → Int} {nm : Nat → Int64} {g : Nat → Option Nat} (hR : isR h r b z f c C nm g) (hc : ∀ q, InR (c q)) {K : Nat} (hK : c 2 = (K : Int)) (hcapK : K ≤ 10) (he : rpL c K 0 K 0 = -5) : RUNM G l (d + 4) mX3_beginTurn [.ref r] h (fun v h' => v = some (.int (J (-5))) ∧ h' = h) := by
  refine RUNM.of (by decide +kernel) (Nat.le_of_ble_eq_true rfl) ?_
  have hW := hR.w
  refine r_aload_n (pc := 0) dX3_beginTurn_0 rfl (by first | rfl | exact isRefV_rf _) ?_
  refine r_getf (pc := 1) dX3_beginTurn_1 fX3_12 (by first | assumption | exact isI.gx (by assumption) | exact isI.gc (by assumption) | exact isW.gx (by assumption) | exact isW.gF (by assumption) | exact isW.gT (by assumption) (by omega) | exact isW.gS (by assumption) (by omega) | exact isW.gK (by assumption) (by omega) | exact isW.g1 (by assumption) | exact isW.g2 (by assumption) | exact isW.g3 (by assumption) | exact isI.gx (isW.i0 (by assumption)) | exact isI.gc (isW.i0 (by assumption)) | exact isI.gx (isW.i1 (by assumption)) | exact isI.gc (isW.i1 (by assumption)) | exact isI.gx (isW.i2 (by assumption)) | exact isI.gc (isW.i2 (by assumption)) | exact isI.gx (isW.i3 (by assumption)) | exact isI.gc (isW.i3 (by assumption)) | exact isI.gx (isW.i4 (by assumption)) | exact isI.gc (isW.i4 (by assumption)) | exact isI.gx (isW.i5 (by assumption)) | exact isI.gc (isW.i5 (by assumption)) | exact isR.gx (by assumption) | exact isRd.gx (by assumption) | exact isSp.gx (by assumption) | exact isI.gx (isR.i (by assumption)) | exact isI.gx (isRd.i (by assumption)) | exact isI.gc (isRd.i (by assumption)) | exact isI.gx (isSp.i (by assumption)) | exact isW.gx (isR.w (by assumption)) | exact isW.gF (isR.w (by assumption)) | fail "no such object") (by rfl) ?_
  refine rj_iconst (pc := 4) dX3_beginTurn_4 ?_
  refine r_callV1 (pc := 5) dX3_beginTurn_5 qX9_readyAtPlace kX3_54 vX9_readyAtPlace (by first | assumption | exact isI.gx (by assumption) | exact isI.gc (by assumption) | exact isW.gx (by assumption) | exact isW.gF (by assumption) | exact isW.gT (by assumption) (by omega) | exact isW.gS (by assumption) (by omega) | exact isW.gK (by assumption) (by omega) | exact isW.g1 (by assumption) | exact isW.g2 (by assumption) | exact isW.g3 (by assumption) | exact isI.gx (isW.i0 (by assumption)) | exact isI.gc (isW.i0 (by assumption)) | exact isI.gx (isW.i1 (by assumption)) | exact isI.gc (isW.i1 (by assumption)) | exact isI.gx (isW.i2 (by assumption)) | exact isI.gc (isW.i2 (by assumption)) | exact isI.gx (isW.i3 (by assumption)) | exact isI.gc (isW.i3 (by assumption)) | exact isI.gx (isW.i4 (by assumption)) | exact isI.gc (isW.i4 (by assumption)) | exact isI.gx (isW.i5 (by assumption)) | exact isI.gc (isW.i5 (by assumption)) | exact isR.gx (by assumption) | exact isRd.gx (by assumption) | exact isSp.gx (by assumption) | exact isI.gx (isR.i (by assumption)) | exact isI.gx (isRd.i (by assumption)) | exact isI.gc (isRd.i (by assumption)) | exact isI.gx (isSp.i (by assumption)) | exact isW.gx (isR.w (by assumption)) | exact isW.gF (isR.w (by assumption)) | fail "no such object") rfl rfl (Nat.le_of_ble_eq_true rfl) (cq_readyAtPlace _ hR.w hc hK hcapK (i := 0) (by decide)) (fun v_5 h_5 q_5 => ?_)
  obtain ⟨rfl, rfl⟩ := q_5
  rw [he]
  refine r_istore_n (pc := 8) dX3_beginTurn_8 (Nat.le_of_ble_eq_true rfl) ?_
  dsimp only [lsSt, List.set, mLs, mEnt]
  refine r_aload_n (pc := 9) dX3_beginTurn_9 rfl (by first | rfl | exact isRefV_rf _) ?_
  refine r_getf (pc := 10) dX3_beginTurn_10 fX3_12 (by first | assumption | exact isI.gx (by assumption) | exact isI.gc (by assumption) | exact isW.gx (by assumption) | exact isW.gF (by assumption) | exact isW.gT (by assumption) (by omega) | exact isW.gS (by assumption) (by omega) | exact isW.gK (by assumption) (by omega) | exact isW.g1 (by assumption) | exact isW.g2 (by assumption) | exact isW.g3 (by assumption) | exact isI.gx (isW.i0 (by assumption)) | exact isI.gc (isW.i0 (by assumption)) | exact isI.gx (isW.i1 (by assumption)) | exact isI.gc (isW.i1 (by assumption)) | exact isI.gx (isW.i2 (by assumption)) | exact isI.gc (isW.i2 (by assumption)) | exact isI.gx (isW.i3 (by assumption)) | exact isI.gc (isW.i3 (by assumption)) | exact isI.gx (isW.i4 (by assumption)) | exact isI.gc (isW.i4 (by assumption)) | exact isI.gx (isW.i5 (by assumption)) | exact isI.gc (isW.i5 (by assumption)) | exact isR.gx (by assumption) | exact isRd.gx (by assumption) | exact isSp.gx (by assumption) | exact isI.gx (isR.i (by assumption)) | exact isI.gx (isRd.i (by assumption)) | exact isI.gc (isRd.i (by assumption)) | exact isI.gx (isSp.i (by assumption)) | exact isW.gx (isR.w (by assumption)) | exact isW.gF (isR.w (by assumption)) | fail "no such object") (by rfl) ?_
  refine r_iload_n (pc := 13) dX3_beginTurn_13 rfl ?_
  refine r_callV1 (pc := 14) dX3_beginTurn_14 qX9_taskAt kX3_57 vX9_taskAt (by first | assumption | exact isI.gx (by assumption) | exact isI.gc (by assumption) | exact isW.gx (by assumption) | exact isW.gF (by assumption) | exact isW.gT (by assumption) (by omega) | exact isW.gS (by assumption) (by omega) | exact isW.gK (by assumption) (by omega) | exact isW.g1 (by assumption) | exact isW.g2 (by assumption) | exact isW.g3 (by assumption) | exact isI.gx (isW.i0 (by assumption)) | exact isI.gc (isW.i0 (by assumption)) | exact isI.gx (isW.i1 (by assumption)) | exact isI.gc (isW.i1 (by assumption)) | exact isI.gx (isW.i2 (by assumption)) | exact isI.gc (isW.i2 (by assumption)) | exact isI.gx (isW.i3 (by assumption)) | exact isI.gc (isW.i3 (by assumption)) | exact isI.gx (isW.i4 (by assumption)) | exact isI.gc (isW.i4 (by assumption)) | exact isI.gx (isW.i5 (by assumption)) | exact isI.gc (isW.i5 (by assumption)) | exact isR.gx (by assumption) | exact isRd.gx (by assumption) | exact isSp.gx (by assumption) | exact isI.gx (isR.i (by assumption)) | exact isI.gx (isRd.i (by assumption)) | exact isI.gc (isRd.i (by assumption)) | exact isI.gx (isSp.i (by assumption)) | exact isW.gx (isR.w (by assumption)) | exact isW.gF (isR.w (by assumption)) | fail "no such object") rfl rfl (Nat.le_of_ble_eq_true rfl) (cw_taskAt _ hR.w hc (i := -5) (by decide)) (fun v_14 h_14 q_14 => ?_)
  obtain ⟨q1_14, rfl⟩ := q_14
  · obtain rfl := tkAt_N (by omega) q1_14
    refine r_astore_n (pc := 17) dX3_beginTurn_17 (Nat.le_of_ble_eq_true rfl) (by first | rfl | exact isRefV_rf _) ?_
    dsimp only [lsSt, List.set, mLs, mEnt]
    refine r_aload_n (pc := 18) dX3_beginTurn_18 rfl (by first | rfl | exact isRefV_rf _) ?_
    refine r_ifnonnull (pc := 19) (tgt := 25) dX3_beginTurn_19 (by decide) (by first | rfl | exact isRefV_rf _) (fun a_19 c_19 => by cases c_19) (fun c_19 => ?_)
    refine rj_bipush (pc := 22) dX3_beginTurn_22 (by decide +kernel) ?_
    refine r_ireturn (pc := 24) .int dX3_beginTurn_24 rfl (by first | rfl | assumption) ?_
    exact ⟨rfl, rfl⟩
def btC (c : Nat → Int) (q : Nat) : Nat → Int := updI (updI (updI c 3 (c 3 + 1)) (491 + 9 * q) (c (491 + 9 * q) + 1)) (492 + 9 * q) (c 3 + 1)
theorem btC_o {c : Nat → Int} {q k : Nat} (h : k ≠ 3 ∧ k ≠ 491 + 9 * q ∧ k ≠ 492 + 9 * q) : btC c q k = c k := by
  unfold btC; rw [updI_n h.2.2, updI_n h.2.1, updI_n h.1]
set_option maxHeartbeats 4000000 in
set_option maxRecDepth 100000 in
theorem cr_turnFine {G : mG} {l : Launch} (d : Nat) {h : mH} {r : Nat} {b z : Int} {f : Nat → Int} {c : Nat → Int} {C : Nat → Nat → Int} {nm : Nat → Int64} {g : Nat → Option Nat} (hR : isR h r b z f c C nm g) (hc : ∀ q, InR (c q)) (hz0 : 0 ≤ z ∧ z < 160) {K : Nat} (hK : c 2 = (K : Int)) (hcapK : K ≤ 10) {q : Nat} (hq : (q : Int) < c 2) (hq2 : q < 10) (he : rpL c K 0 K 0 = (q : Int)) {u : Nat} (hu : c (494 + 9 * q) = (u : Int)) (hu1 : (u : Int) < c 1) (hu2 : u < 60) (t3 : InR (c 3 + 1)) (t4 : InR (c (491 + 9 * q) + 1)) (hf : c (496 + 9 * q) = 0 ∧ c (304 + 3 * u) = 0) : RUNM G l (d + 4) mX3_beginTurn [.ref r] h (fun v h' => v = some (.int (J (q : Int))) ∧ isR h' r (q : Int) (z + 1) (updI f z.toNat (200 + (q : Int))) (btC c q) C nm g ∧ Same (rBlk r) h h') := by
  refine RUNM.of (by decide +kernel) (Nat.le_of_ble_eq_true rfl) ?_
  have hW := hR.w
  refine r_aload_n (pc := 0) dX3_beginTurn_0 rfl (by first | rfl | exact isRefV_rf _) ?_
  refine r_getf (pc := 1) dX3_beginTurn_1 fX3_12 (by first | assumption | exact isI.gx (by assumption) | exact isI.gc (by assumption) | exact isW.gx (by assumption) | exact isW.gF (by assumption) | exact isW.gT (by assumption) (by omega) | exact isW.gS (by assumption) (by omega) | exact isW.gK (by assumption) (by omega) | exact isW.g1 (by assumption) | exact isW.g2 (by assumption) | exact isW.g3 (by assumption) | exact isI.gx (isW.i0 (by assumption)) | exact isI.gc (isW.i0 (by assumption)) | exact isI.gx (isW.i1 (by assumption)) | exact isI.gc (isW.i1 (by assumption)) | exact isI.gx (isW.i2 (by assumption)) | exact isI.gc (isW.i2 (by assumption)) | exact isI.gx (isW.i3 (by assumption)) | exact isI.gc (isW.i3 (by assumption)) | exact isI.gx (isW.i4 (by assumption)) | exact isI.gc (isW.i4 (by assumption)) | exact isI.gx (isW.i5 (by assumption)) | exact isI.gc (isW.i5 (by assumption)) | exact isR.gx (by assumption) | exact isRd.gx (by assumption) | exact isSp.gx (by assumption) | exact isI.gx (isR.i (by assumption)) | exact isI.gx (isRd.i (by assumption)) | exact isI.gc (isRd.i (by assumption)) | exact isI.gx (isSp.i (by assumption)) | exact isW.gx (isR.w (by assumption)) | exact isW.gF (isR.w (by assumption)) | fail "no such object") (by rfl) ?_
  refine rj_iconst (pc := 4) dX3_beginTurn_4 ?_
  refine r_callV1 (pc := 5) dX3_beginTurn_5 qX9_readyAtPlace kX3_54 vX9_readyAtPlace (by first | assumption | exact isI.gx (by assumption) | exact isI.gc (by assumption) | exact isW.gx (by assumption) | exact isW.gF (by assumption) | exact isW.gT (by assumption) (by omega) | exact isW.gS (by assumption) (by omega) | exact isW.gK (by assumption) (by omega) | exact isW.g1 (by assumption) | exact isW.g2 (by assumption) | exact isW.g3 (by assumption) | exact isI.gx (isW.i0 (by assumption)) | exact isI.gc (isW.i0 (by assumption)) | exact isI.gx (isW.i1 (by assumption)) | exact isI.gc (isW.i1 (by assumption)) | exact isI.gx (isW.i2 (by assumption)) | exact isI.gc (isW.i2 (by assumption)) | exact isI.gx (isW.i3 (by assumption)) | exact isI.gc (isW.i3 (by assumption)) | exact isI.gx (isW.i4 (by assumption)) | exact isI.gc (isW.i4 (by assumption)) | exact isI.gx (isW.i5 (by assumption)) | exact isI.gc (isW.i5 (by assumption)) | exact isR.gx (by assumption) | exact isRd.gx (by assumption) | exact isSp.gx (by assumption) | exact isI.gx (isR.i (by assumption)) | exact isI.gx (isRd.i (by assumption)) | exact isI.gc (isRd.i (by assumption)) | exact isI.gx (isSp.i (by assumption)) | exact isW.gx (isR.w (by assumption)) | exact isW.gF (isR.w (by assumption)) | fail "no such object") rfl rfl (Nat.le_of_ble_eq_true rfl) (cq_readyAtPlace _ hR.w hc hK hcapK (i := 0) (by decide)) (fun v_5 h_5 q_5 => ?_)
  obtain ⟨rfl, rfl⟩ := q_5
  rw [he]
  refine r_istore_n (pc := 8) dX3_beginTurn_8 (Nat.le_of_ble_eq_true rfl) ?_
  dsimp only [lsSt, List.set, mLs, mEnt]
  refine r_aload_n (pc := 9) dX3_beginTurn_9 rfl (by first | rfl | exact isRefV_rf _) ?_
  refine r_getf (pc := 10) dX3_beginTurn_10 fX3_12 (by first | assumption | exact isI.gx (by assumption) | exact isI.gc (by assumption) | exact isW.gx (by assumption) | exact isW.gF (by assumption) | exact isW.gT (by assumption) (by omega) | exact isW.gS (by assumption) (by omega) | exact isW.gK (by assumption) (by omega) | exact isW.g1 (by assumption) | exact isW.g2 (by assumption) | exact isW.g3 (by assumption) | exact isI.gx (isW.i0 (by assumption)) | exact isI.gc (isW.i0 (by assumption)) | exact isI.gx (isW.i1 (by assumption)) | exact isI.gc (isW.i1 (by assumption)) | exact isI.gx (isW.i2 (by assumption)) | exact isI.gc (isW.i2 (by assumption)) | exact isI.gx (isW.i3 (by assumption)) | exact isI.gc (isW.i3 (by assumption)) | exact isI.gx (isW.i4 (by assumption)) | exact isI.gc (isW.i4 (by assumption)) | exact isI.gx (isW.i5 (by assumption)) | exact isI.gc (isW.i5 (by assumption)) | exact isR.gx (by assumption) | exact isRd.gx (by assumption) | exact isSp.gx (by assumption) | exact isI.gx (isR.i (by assumption)) | exact isI.gx (isRd.i (by assumption)) | exact isI.gc (isRd.i (by assumption)) | exact isI.gx (isSp.i (by assumption)) | exact isW.gx (isR.w (by assumption)) | exact isW.gF (isR.w (by assumption)) | fail "no such object") (by rfl) ?_
  refine r_iload_n (pc := 13) dX3_beginTurn_13 rfl ?_
  refine r_callV1 (pc := 14) dX3_beginTurn_14 qX9_taskAt kX3_57 vX9_taskAt (by first | assumption | exact isI.gx (by assumption) | exact isI.gc (by assumption) | exact isW.gx (by assumption) | exact isW.gF (by assumption) | exact isW.gT (by assumption) (by omega) | exact isW.gS (by assumption) (by omega) | exact isW.gK (by assumption) (by omega) | exact isW.g1 (by assumption) | exact isW.g2 (by assumption) | exact isW.g3 (by assumption) | exact isI.gx (isW.i0 (by assumption)) | exact isI.gc (isW.i0 (by assumption)) | exact isI.gx (isW.i1 (by assumption)) | exact isI.gc (isW.i1 (by assumption)) | exact isI.gx (isW.i2 (by assumption)) | exact isI.gc (isW.i2 (by assumption)) | exact isI.gx (isW.i3 (by assumption)) | exact isI.gc (isW.i3 (by assumption)) | exact isI.gx (isW.i4 (by assumption)) | exact isI.gc (isW.i4 (by assumption)) | exact isI.gx (isW.i5 (by assumption)) | exact isI.gc (isW.i5 (by assumption)) | exact isR.gx (by assumption) | exact isRd.gx (by assumption) | exact isSp.gx (by assumption) | exact isI.gx (isR.i (by assumption)) | exact isI.gx (isRd.i (by assumption)) | exact isI.gc (isRd.i (by assumption)) | exact isI.gx (isSp.i (by assumption)) | exact isW.gx (isR.w (by assumption)) | exact isW.gF (isR.w (by assumption)) | fail "no such object") rfl rfl (Nat.le_of_ble_eq_true rfl) (cw_taskAt _ hR.w hc (i := (q : Int)) ⟨by omega, by omega⟩) (fun v_14 h_14 q_14 => ?_)
  obtain ⟨q1_14, rfl⟩ := q_14
  · obtain rfl := tkAt_P (by omega) q1_14
    refine r_astore_n (pc := 17) dX3_beginTurn_17 (Nat.le_of_ble_eq_true rfl) (by first | rfl | exact isRefV_rf _) ?_
    dsimp only [lsSt, List.set, mLs, mEnt]
    refine r_aload_n (pc := 18) dX3_beginTurn_18 rfl (by first | rfl | exact isRefV_rf _) ?_
    refine r_ifnonnull (pc := 19) (tgt := 25) dX3_beginTurn_19 (by decide) (by first | rfl | exact isRefV_rf _) (fun a_19 c_19 => ?_) (fun c_19 => by cases c_19)
    rw [Int.toNat_natCast]
    refine r_aload_n (pc := 25) dX3_beginTurn_25 rfl (by first | rfl | exact isRefV_rf _) ?_
    refine r_getf (pc := 26) dX3_beginTurn_26 fX3_12 (by first | assumption | exact isI.gx (by assumption) | exact isI.gc (by assumption) | exact isW.gx (by assumption) | exact isW.gF (by assumption) | exact isW.gT (by assumption) (by omega) | exact isW.gS (by assumption) (by omega) | exact isW.gK (by assumption) (by omega) | exact isW.g1 (by assumption) | exact isW.g2 (by assumption) | exact isW.g3 (by assumption) | exact isI.gx (isW.i0 (by assumption)) | exact isI.gc (isW.i0 (by assumption)) | exact isI.gx (isW.i1 (by assumption)) | exact isI.gc (isW.i1 (by assumption)) | exact isI.gx (isW.i2 (by assumption)) | exact isI.gc (isW.i2 (by assumption)) | exact isI.gx (isW.i3 (by assumption)) | exact isI.gc (isW.i3 (by assumption)) | exact isI.gx (isW.i4 (by assumption)) | exact isI.gc (isW.i4 (by assumption)) | exact isI.gx (isW.i5 (by assumption)) | exact isI.gc (isW.i5 (by assumption)) | exact isR.gx (by assumption) | exact isRd.gx (by assumption) | exact isSp.gx (by assumption) | exact isI.gx (isR.i (by assumption)) | exact isI.gx (isRd.i (by assumption)) | exact isI.gc (isRd.i (by assumption)) | exact isI.gx (isSp.i (by assumption)) | exact isW.gx (isR.w (by assumption)) | exact isW.gF (isR.w (by assumption)) | fail "no such object") (by rfl) ?_
    refine r_dup (pc := 29) dX3_beginTurn_29 (by first | rfl | (cases ‹Option Nat› <;> rfl)) ?_
    refine r_getf (pc := 30) dX3_beginTurn_30 fX3_61 (by first | assumption | exact isI.gx (by assumption) | exact isI.gc (by assumption) | exact isW.gx (by assumption) | exact isW.gF (by assumption) | exact isW.gT (by assumption) (by omega) | exact isW.gS (by assumption) (by omega) | exact isW.gK (by assumption) (by omega) | exact isW.g1 (by assumption) | exact isW.g2 (by assumption) | exact isW.g3 (by assumption) | exact isI.gx (isW.i0 (by assumption)) | exact isI.gc (isW.i0 (by assumption)) | exact isI.gx (isW.i1 (by assumption)) | exact isI.gc (isW.i1 (by assumption)) | exact isI.gx (isW.i2 (by assumption)) | exact isI.gc (isW.i2 (by assumption)) | exact isI.gx (isW.i3 (by assumption)) | exact isI.gc (isW.i3 (by assumption)) | exact isI.gx (isW.i4 (by assumption)) | exact isI.gc (isW.i4 (by assumption)) | exact isI.gx (isW.i5 (by assumption)) | exact isI.gc (isW.i5 (by assumption)) | exact isR.gx (by assumption) | exact isRd.gx (by assumption) | exact isSp.gx (by assumption) | exact isI.gx (isR.i (by assumption)) | exact isI.gx (isRd.i (by assumption)) | exact isI.gc (isRd.i (by assumption)) | exact isI.gx (isSp.i (by assumption)) | exact isW.gx (isR.w (by assumption)) | exact isW.gF (isR.w (by assumption)) | fail "no such object") (by rfl) ?_
    refine rj_iconst (pc := 33) dX3_beginTurn_33 ?_
    refine rj_iadd (pc := 34) dX3_beginTurn_34 ?_
    refine rc_putw3 (pc := 35) dX3_beginTurn_35 fX3_61 (by assumption) (fun h_35 hW_35 hS_35 => ?_)
    refine r_aload_n (pc := 38) dX3_beginTurn_38 rfl (by first | rfl | exact isRefV_rf _) ?_
    refine r_dup (pc := 39) dX3_beginTurn_39 (by first | rfl | (cases ‹Option Nat› <;> rfl)) ?_
    refine r_getf (pc := 40) dX3_beginTurn_40 fX3_64 (by first | assumption | exact isI.gx (by assumption) | exact isI.gc (by assumption) | exact isW.gx (by assumption) | exact isW.gF (by assumption) | exact isW.gT (by assumption) (by omega) | exact isW.gS (by assumption) (by omega) | exact isW.gK (by assumption) (by omega) | exact isW.g1 (by assumption) | exact isW.g2 (by assumption) | exact isW.g3 (by assumption) | exact isI.gx (isW.i0 (by assumption)) | exact isI.gc (isW.i0 (by assumption)) | exact isI.gx (isW.i1 (by assumption)) | exact isI.gc (isW.i1 (by assumption)) | exact isI.gx (isW.i2 (by assumption)) | exact isI.gc (isW.i2 (by assumption)) | exact isI.gx (isW.i3 (by assumption)) | exact isI.gc (isW.i3 (by assumption)) | exact isI.gx (isW.i4 (by assumption)) | exact isI.gc (isW.i4 (by assumption)) | exact isI.gx (isW.i5 (by assumption)) | exact isI.gc (isW.i5 (by assumption)) | exact isR.gx (by assumption) | exact isRd.gx (by assumption) | exact isSp.gx (by assumption) | exact isI.gx (isR.i (by assumption)) | exact isI.gx (isRd.i (by assumption)) | exact isI.gc (isRd.i (by assumption)) | exact isI.gx (isSp.i (by assumption)) | exact isW.gx (isR.w (by assumption)) | exact isW.gF (isR.w (by assumption)) | fail "no such object") (by rfl) ?_
    refine rj_iconst (pc := 43) dX3_beginTurn_43 ?_
    rw [show updI c 3 (c 3 + 1) (491 + 9 * q) = c (491 + 9 * q) from updI_n (by omega)]
    refine rj_iadd (pc := 44) dX3_beginTurn_44 ?_
    refine rc_putK5 (pc := 45) dX3_beginTurn_45 fX3_64 (by assumption) (by omega) (fun h_45 hW_45 hS_45 => ?_)
    have Q_45 := (hR.ofWr (hS_35.trans hS_45) hW_45).1
    refine r_aload_n (pc := 48) dX3_beginTurn_48 rfl (by first | rfl | exact isRefV_rf _) ?_
    refine r_aload_n (pc := 49) dX3_beginTurn_49 rfl (by first | rfl | exact isRefV_rf _) ?_
    refine r_getf (pc := 50) dX3_beginTurn_50 fX3_12 (by first | assumption | exact isI.gx (by assumption) | exact isI.gc (by assumption) | exact isW.gx (by assumption) | exact isW.gF (by assumption) | exact isW.gT (by assumption) (by omega) | exact isW.gS (by assumption) (by omega) | exact isW.gK (by assumption) (by omega) | exact isW.g1 (by assumption) | exact isW.g2 (by assumption) | exact isW.g3 (by assumption) | exact isI.gx (isW.i0 (by assumption)) | exact isI.gc (isW.i0 (by assumption)) | exact isI.gx (isW.i1 (by assumption)) | exact isI.gc (isW.i1 (by assumption)) | exact isI.gx (isW.i2 (by assumption)) | exact isI.gc (isW.i2 (by assumption)) | exact isI.gx (isW.i3 (by assumption)) | exact isI.gc (isW.i3 (by assumption)) | exact isI.gx (isW.i4 (by assumption)) | exact isI.gc (isW.i4 (by assumption)) | exact isI.gx (isW.i5 (by assumption)) | exact isI.gc (isW.i5 (by assumption)) | exact isR.gx (by assumption) | exact isRd.gx (by assumption) | exact isSp.gx (by assumption) | exact isI.gx (isR.i (by assumption)) | exact isI.gx (isRd.i (by assumption)) | exact isI.gc (isRd.i (by assumption)) | exact isI.gx (isSp.i (by assumption)) | exact isW.gx (isR.w (by assumption)) | exact isW.gF (isR.w (by assumption)) | fail "no such object") (by rfl) ?_
    refine r_getf (pc := 53) dX3_beginTurn_53 fX3_61 (by first | assumption | exact isI.gx (by assumption) | exact isI.gc (by assumption) | exact isW.gx (by assumption) | exact isW.gF (by assumption) | exact isW.gT (by assumption) (by omega) | exact isW.gS (by assumption) (by omega) | exact isW.gK (by assumption) (by omega) | exact isW.g1 (by assumption) | exact isW.g2 (by assumption) | exact isW.g3 (by assumption) | exact isI.gx (isW.i0 (by assumption)) | exact isI.gc (isW.i0 (by assumption)) | exact isI.gx (isW.i1 (by assumption)) | exact isI.gc (isW.i1 (by assumption)) | exact isI.gx (isW.i2 (by assumption)) | exact isI.gc (isW.i2 (by assumption)) | exact isI.gx (isW.i3 (by assumption)) | exact isI.gc (isW.i3 (by assumption)) | exact isI.gx (isW.i4 (by assumption)) | exact isI.gc (isW.i4 (by assumption)) | exact isI.gx (isW.i5 (by assumption)) | exact isI.gc (isW.i5 (by assumption)) | exact isR.gx (by assumption) | exact isRd.gx (by assumption) | exact isSp.gx (by assumption) | exact isI.gx (isR.i (by assumption)) | exact isI.gx (isRd.i (by assumption)) | exact isI.gc (isRd.i (by assumption)) | exact isI.gx (isSp.i (by assumption)) | exact isW.gx (isR.w (by assumption)) | exact isW.gF (isR.w (by assumption)) | fail "no such object") (by rfl) ?_
    rw [show updI (updI c 3 (c 3 + 1)) (491 + 9 * q) (c (491 + 9 * q) + 1) 3 = c 3 + 1 from (updI_n (by omega)).trans updI_s]
    refine rc_putK6 (pc := 56) dX3_beginTurn_56 fX3_67 (by assumption) (by omega) (fun h_56 hW_56 hS_56 => ?_)
    have W_56 : isW h_56 (rA r 1) (btC c q) C nm g := hW_56
    have T_56 := hR.ofWr ((hS_35.trans hS_45).trans hS_56) W_56
    have Q_56 := T_56.1
    clear hW_56
    have e6 : btC c q (496 + 9 * q) = c (496 + 9 * q) := btC_o (by omega)
    have e4 : btC c q (494 + 9 * q) = (u : Int) := (btC_o (by omega)).trans hu
    have e0 : btC c q (304 + 3 * u) = c (304 + 3 * u) := btC_o (by omega)
    have e1 : btC c q 1 = c 1 := btC_o (by omega)
    have hcb : ∀ k, InR (btC c q k) := updI_R (updI_R (updI_R hc t3) t4) t3
    have r6 := hc (496 + 9 * q)
    refine r_aload_n (pc := 59) dX3_beginTurn_59 rfl (by first | rfl | exact isRefV_rf _) ?_
    refine r_getf (pc := 60) dX3_beginTurn_60 fX3_70 (by first | assumption | exact isI.gx (by assumption) | exact isI.gc (by assumption) | exact isW.gx (by assumption) | exact isW.gF (by assumption) | exact isW.gT (by assumption) (by omega) | exact isW.gS (by assumption) (by omega) | exact isW.gK (by assumption) (by omega) | exact isW.g1 (by assumption) | exact isW.g2 (by assumption) | exact isW.g3 (by assumption) | exact isI.gx (isW.i0 (by assumption)) | exact isI.gc (isW.i0 (by assumption)) | exact isI.gx (isW.i1 (by assumption)) | exact isI.gc (isW.i1 (by assumption)) | exact isI.gx (isW.i2 (by assumption)) | exact isI.gc (isW.i2 (by assumption)) | exact isI.gx (isW.i3 (by assumption)) | exact isI.gc (isW.i3 (by assumption)) | exact isI.gx (isW.i4 (by assumption)) | exact isI.gc (isW.i4 (by assumption)) | exact isI.gx (isW.i5 (by assumption)) | exact isI.gc (isW.i5 (by assumption)) | exact isR.gx (by assumption) | exact isRd.gx (by assumption) | exact isSp.gx (by assumption) | exact isI.gx (isR.i (by assumption)) | exact isI.gx (isRd.i (by assumption)) | exact isI.gc (isRd.i (by assumption)) | exact isI.gx (isSp.i (by assumption)) | exact isW.gx (isR.w (by assumption)) | exact isW.gF (isR.w (by assumption)) | fail "no such object") (by rfl) ?_
    rw [e6]
    refine rj_if_ne (pc := 63) (tgt := 80) dX3_beginTurn_63 (by decide) (by first | exact b01_r | exact bz_r | omega | (constructor <;> omega) | apply_assumption | (apply atF_r; assumption) | fail "no range") (fun c_63 => ?_) (fun c_63 => ?_)
    · try simp only [b01_0, bz_0, Classical.not_not] at c_63
      exfalso; omega
    · try simp only [b01_0, bz_0, Classical.not_not] at c_63
      refine r_aload_n (pc := 66) dX3_beginTurn_66 rfl (by first | rfl | exact isRefV_rf _) ?_
      refine r_getf (pc := 67) dX3_beginTurn_67 fX3_12 (by first | assumption | exact isI.gx (by assumption) | exact isI.gc (by assumption) | exact isW.gx (by assumption) | exact isW.gF (by assumption) | exact isW.gT (by assumption) (by omega) | exact isW.gS (by assumption) (by omega) | exact isW.gK (by assumption) (by omega) | exact isW.g1 (by assumption) | exact isW.g2 (by assumption) | exact isW.g3 (by assumption) | exact isI.gx (isW.i0 (by assumption)) | exact isI.gc (isW.i0 (by assumption)) | exact isI.gx (isW.i1 (by assumption)) | exact isI.gc (isW.i1 (by assumption)) | exact isI.gx (isW.i2 (by assumption)) | exact isI.gc (isW.i2 (by assumption)) | exact isI.gx (isW.i3 (by assumption)) | exact isI.gc (isW.i3 (by assumption)) | exact isI.gx (isW.i4 (by assumption)) | exact isI.gc (isW.i4 (by assumption)) | exact isI.gx (isW.i5 (by assumption)) | exact isI.gc (isW.i5 (by assumption)) | exact isR.gx (by assumption) | exact isRd.gx (by assumption) | exact isSp.gx (by assumption) | exact isI.gx (isR.i (by assumption)) | exact isI.gx (isRd.i (by assumption)) | exact isI.gc (isRd.i (by assumption)) | exact isI.gx (isSp.i (by assumption)) | exact isW.gx (isR.w (by assumption)) | exact isW.gF (isR.w (by assumption)) | fail "no such object") (by rfl) ?_
      refine r_aload_n (pc := 70) dX3_beginTurn_70 rfl (by first | rfl | exact isRefV_rf _) ?_
      refine r_getf (pc := 71) dX3_beginTurn_71 fX3_74 (by first | assumption | exact isI.gx (by assumption) | exact isI.gc (by assumption) | exact isW.gx (by assumption) | exact isW.gF (by assumption) | exact isW.gT (by assumption) (by omega) | exact isW.gS (by assumption) (by omega) | exact isW.gK (by assumption) (by omega) | exact isW.g1 (by assumption) | exact isW.g2 (by assumption) | exact isW.g3 (by assumption) | exact isI.gx (isW.i0 (by assumption)) | exact isI.gc (isW.i0 (by assumption)) | exact isI.gx (isW.i1 (by assumption)) | exact isI.gc (isW.i1 (by assumption)) | exact isI.gx (isW.i2 (by assumption)) | exact isI.gc (isW.i2 (by assumption)) | exact isI.gx (isW.i3 (by assumption)) | exact isI.gc (isW.i3 (by assumption)) | exact isI.gx (isW.i4 (by assumption)) | exact isI.gc (isW.i4 (by assumption)) | exact isI.gx (isW.i5 (by assumption)) | exact isI.gc (isW.i5 (by assumption)) | exact isR.gx (by assumption) | exact isRd.gx (by assumption) | exact isSp.gx (by assumption) | exact isI.gx (isR.i (by assumption)) | exact isI.gx (isRd.i (by assumption)) | exact isI.gc (isRd.i (by assumption)) | exact isI.gx (isSp.i (by assumption)) | exact isW.gx (isR.w (by assumption)) | exact isW.gF (isR.w (by assumption)) | fail "no such object") (by rfl) ?_
      rw [e4]
      refine r_callV1 (pc := 74) dX3_beginTurn_74 qX9_isOpen kX3_77 vX9_isOpen (by first | assumption | exact isI.gx (by assumption) | exact isI.gc (by assumption) | exact isW.gx (by assumption) | exact isW.gF (by assumption) | exact isW.gT (by assumption) (by omega) | exact isW.gS (by assumption) (by omega) | exact isW.gK (by assumption) (by omega) | exact isW.g1 (by assumption) | exact isW.g2 (by assumption) | exact isW.g3 (by assumption) | exact isI.gx (isW.i0 (by assumption)) | exact isI.gc (isW.i0 (by assumption)) | exact isI.gx (isW.i1 (by assumption)) | exact isI.gc (isW.i1 (by assumption)) | exact isI.gx (isW.i2 (by assumption)) | exact isI.gc (isW.i2 (by assumption)) | exact isI.gx (isW.i3 (by assumption)) | exact isI.gc (isW.i3 (by assumption)) | exact isI.gx (isW.i4 (by assumption)) | exact isI.gc (isW.i4 (by assumption)) | exact isI.gx (isW.i5 (by assumption)) | exact isI.gc (isW.i5 (by assumption)) | exact isR.gx (by assumption) | exact isRd.gx (by assumption) | exact isSp.gx (by assumption) | exact isI.gx (isR.i (by assumption)) | exact isI.gx (isRd.i (by assumption)) | exact isI.gc (isRd.i (by assumption)) | exact isI.gx (isSp.i (by assumption)) | exact isW.gx (isR.w (by assumption)) | exact isW.gF (isR.w (by assumption)) | fail "no such object") rfl rfl (Nat.le_of_ble_eq_true rfl) (cw_isOpen _ Q_56.w hcb (i := (u : Int)) ⟨by omega, by omega⟩) (fun v_74 h_74 q_74 => ?_)
      obtain ⟨rfl, rfl⟩ := q_74
      rw [Int.toNat_natCast, e0]
      refine rj_if_ne (pc := 77) (tgt := 85) dX3_beginTurn_77 (by decide) (by first | exact b01_r | exact bz_r | omega | (constructor <;> omega) | apply_assumption | (apply atF_r; assumption) | fail "no range") (fun c_77 => ?_) (fun c_77 => ?_)
      · try simp only [b01_0, bz_0, Classical.not_not] at c_77
        have Q_x := Q_56
        refine r_aload_n (pc := 85) dX3_beginTurn_85 rfl (by first | rfl | exact isRefV_rf _) ?_
        refine r_iload_n (pc := 86) dX3_beginTurn_86 rfl ?_
        refine rc_putR (pc := 87) dX3_beginTurn_87 fX3_27 (by assumption) (fun h_87 hW_87 hS_87 => ?_)
        refine r_aload_n (pc := 90) dX3_beginTurn_90 rfl (by first | rfl | exact isRefV_rf _) ?_
        refine r_getf (pc := 91) dX3_beginTurn_91 fX3_23 (by first | assumption | exact isI.gx (by assumption) | exact isI.gc (by assumption) | exact isW.gx (by assumption) | exact isW.gF (by assumption) | exact isW.gT (by assumption) (by omega) | exact isW.gS (by assumption) (by omega) | exact isW.gK (by assumption) (by omega) | exact isW.g1 (by assumption) | exact isW.g2 (by assumption) | exact isW.g3 (by assumption) | exact isI.gx (isW.i0 (by assumption)) | exact isI.gc (isW.i0 (by assumption)) | exact isI.gx (isW.i1 (by assumption)) | exact isI.gc (isW.i1 (by assumption)) | exact isI.gx (isW.i2 (by assumption)) | exact isI.gc (isW.i2 (by assumption)) | exact isI.gx (isW.i3 (by assumption)) | exact isI.gc (isW.i3 (by assumption)) | exact isI.gx (isW.i4 (by assumption)) | exact isI.gc (isW.i4 (by assumption)) | exact isI.gx (isW.i5 (by assumption)) | exact isI.gc (isW.i5 (by assumption)) | exact isR.gx (by assumption) | exact isRd.gx (by assumption) | exact isSp.gx (by assumption) | exact isI.gx (isR.i (by assumption)) | exact isI.gx (isRd.i (by assumption)) | exact isI.gc (isRd.i (by assumption)) | exact isI.gx (isSp.i (by assumption)) | exact isW.gx (isR.w (by assumption)) | exact isW.gF (isR.w (by assumption)) | fail "no such object") (by rfl) ?_
        refine rj_sipush (pc := 94) dX3_beginTurn_94 (by decide +kernel) ?_
        refine r_iload_n (pc := 97) dX3_beginTurn_97 rfl ?_
        refine rj_iadd (pc := 98) dX3_beginTurn_98 ?_
        refine r_callV1 (pc := 99) dX3_beginTurn_99 qX1_append kX3_84 vX1_append (by first | assumption | exact isI.gx (by assumption) | exact isI.gc (by assumption) | exact isW.gx (by assumption) | exact isW.gF (by assumption) | exact isW.gT (by assumption) (by omega) | exact isW.gS (by assumption) (by omega) | exact isW.gK (by assumption) (by omega) | exact isW.g1 (by assumption) | exact isW.g2 (by assumption) | exact isW.g3 (by assumption) | exact isI.gx (isW.i0 (by assumption)) | exact isI.gc (isW.i0 (by assumption)) | exact isI.gx (isW.i1 (by assumption)) | exact isI.gc (isW.i1 (by assumption)) | exact isI.gx (isW.i2 (by assumption)) | exact isI.gc (isW.i2 (by assumption)) | exact isI.gx (isW.i3 (by assumption)) | exact isI.gc (isW.i3 (by assumption)) | exact isI.gx (isW.i4 (by assumption)) | exact isI.gc (isW.i4 (by assumption)) | exact isI.gx (isW.i5 (by assumption)) | exact isI.gc (isW.i5 (by assumption)) | exact isR.gx (by assumption) | exact isRd.gx (by assumption) | exact isSp.gx (by assumption) | exact isI.gx (isR.i (by assumption)) | exact isI.gx (isRd.i (by assumption)) | exact isI.gc (isRd.i (by assumption)) | exact isI.gx (isSp.i (by assumption)) | exact isW.gx (isR.w (by assumption)) | exact isW.gF (isR.w (by assumption)) | fail "no such object") rfl rfl (Nat.le_of_ble_eq_true rfl) (ci_append _ hW_87.i (by decide) ⟨by omega, by omega⟩ (200 + (q : Int))) (fun v_99 h_99 q_99 => ?_)
        obtain ⟨rfl, I_99, S_99⟩ := q_99
        rw [if_pos (by omega), if_pos (by omega)] at I_99
        refine r_pop (pc := 102) dX3_beginTurn_102 (by first | rfl | (cases ‹Option Nat› <;> rfl)) ?_
        refine r_iload_n (pc := 103) dX3_beginTurn_103 rfl ?_
        refine r_ireturn (pc := 104) .int dX3_beginTurn_104 rfl (by first | rfl | assumption) ?_
        first | (exfalso; omega) | exact ⟨rfl, hW_87.ofI S_99 I_99, (T_56.2.trans hS_87).trans (S_99.mono (fun q hq => i_rBlk hq))⟩
      · try simp only [b01_0, bz_0, Classical.not_not] at c_77
        exfalso; omega
set_option maxHeartbeats 4000000 in
set_option maxRecDepth 100000 in
theorem cr_turnNot {G : mG} {l : Launch} (d : Nat) {h : mH} {r : Nat} {b z : Int} {f : Nat → Int} {c : Nat → Int} {C : Nat → Nat → Int} {nm : Nat → Int64} {g : Nat → Option Nat} (hR : isR h r b z f c C nm g) (hc : ∀ q, InR (c q)) (hz0 : 0 ≤ z ∧ z < 160) {K : Nat} (hK : c 2 = (K : Int)) (hcapK : K ≤ 10) {q : Nat} (hq : (q : Int) < c 2) (hq2 : q < 10) (he : rpL c K 0 K 0 = (q : Int)) {u : Nat} (hu : c (494 + 9 * q) = (u : Int)) (hu1 : (u : Int) < c 1) (hu2 : u < 60) (t3 : InR (c 3 + 1)) (t4 : InR (c (491 + 9 * q) + 1)) (hf : ¬ (c (496 + 9 * q) = 0 ∧ c (304 + 3 * u) = 0)) : RUNM G l (d + 4) mX3_beginTurn [.ref r] h (fun v h' => v = some (.int (J (q : Int))) ∧ isR h' r (q : Int) (z + 1) (updI f z.toNat (200 + (q : Int))) (updI (btC c q) (489 + 9 * q) 3) C nm g ∧ Same (rBlk r) h h') := by
  refine RUNM.of (by decide +kernel) (Nat.le_of_ble_eq_true rfl) ?_
  have hW := hR.w
  refine r_aload_n (pc := 0) dX3_beginTurn_0 rfl (by first | rfl | exact isRefV_rf _) ?_
  refine r_getf (pc := 1) dX3_beginTurn_1 fX3_12 (by first | assumption | exact isI.gx (by assumption) | exact isI.gc (by assumption) | exact isW.gx (by assumption) | exact isW.gF (by assumption) | exact isW.gT (by assumption) (by omega) | exact isW.gS (by assumption) (by omega) | exact isW.gK (by assumption) (by omega) | exact isW.g1 (by assumption) | exact isW.g2 (by assumption) | exact isW.g3 (by assumption) | exact isI.gx (isW.i0 (by assumption)) | exact isI.gc (isW.i0 (by assumption)) | exact isI.gx (isW.i1 (by assumption)) | exact isI.gc (isW.i1 (by assumption)) | exact isI.gx (isW.i2 (by assumption)) | exact isI.gc (isW.i2 (by assumption)) | exact isI.gx (isW.i3 (by assumption)) | exact isI.gc (isW.i3 (by assumption)) | exact isI.gx (isW.i4 (by assumption)) | exact isI.gc (isW.i4 (by assumption)) | exact isI.gx (isW.i5 (by assumption)) | exact isI.gc (isW.i5 (by assumption)) | exact isR.gx (by assumption) | exact isRd.gx (by assumption) | exact isSp.gx (by assumption) | exact isI.gx (isR.i (by assumption)) | exact isI.gx (isRd.i (by assumption)) | exact isI.gc (isRd.i (by assumption)) | exact isI.gx (isSp.i (by assumption)) | exact isW.gx (isR.w (by assumption)) | exact isW.gF (isR.w (by assumption)) | fail "no such object") (by rfl) ?_
  refine rj_iconst (pc := 4) dX3_beginTurn_4 ?_
  refine r_callV1 (pc := 5) dX3_beginTurn_5 qX9_readyAtPlace kX3_54 vX9_readyAtPlace (by first | assumption | exact isI.gx (by assumption) | exact isI.gc (by assumption) | exact isW.gx (by assumption) | exact isW.gF (by assumption) | exact isW.gT (by assumption) (by omega) | exact isW.gS (by assumption) (by omega) | exact isW.gK (by assumption) (by omega) | exact isW.g1 (by assumption) | exact isW.g2 (by assumption) | exact isW.g3 (by assumption) | exact isI.gx (isW.i0 (by assumption)) | exact isI.gc (isW.i0 (by assumption)) | exact isI.gx (isW.i1 (by assumption)) | exact isI.gc (isW.i1 (by assumption)) | exact isI.gx (isW.i2 (by assumption)) | exact isI.gc (isW.i2 (by assumption)) | exact isI.gx (isW.i3 (by assumption)) | exact isI.gc (isW.i3 (by assumption)) | exact isI.gx (isW.i4 (by assumption)) | exact isI.gc (isW.i4 (by assumption)) | exact isI.gx (isW.i5 (by assumption)) | exact isI.gc (isW.i5 (by assumption)) | exact isR.gx (by assumption) | exact isRd.gx (by assumption) | exact isSp.gx (by assumption) | exact isI.gx (isR.i (by assumption)) | exact isI.gx (isRd.i (by assumption)) | exact isI.gc (isRd.i (by assumption)) | exact isI.gx (isSp.i (by assumption)) | exact isW.gx (isR.w (by assumption)) | exact isW.gF (isR.w (by assumption)) | fail "no such object") rfl rfl (Nat.le_of_ble_eq_true rfl) (cq_readyAtPlace _ hR.w hc hK hcapK (i := 0) (by decide)) (fun v_5 h_5 q_5 => ?_)
  obtain ⟨rfl, rfl⟩ := q_5
  rw [he]
  refine r_istore_n (pc := 8) dX3_beginTurn_8 (Nat.le_of_ble_eq_true rfl) ?_
  dsimp only [lsSt, List.set, mLs, mEnt]
  refine r_aload_n (pc := 9) dX3_beginTurn_9 rfl (by first | rfl | exact isRefV_rf _) ?_
  refine r_getf (pc := 10) dX3_beginTurn_10 fX3_12 (by first | assumption | exact isI.gx (by assumption) | exact isI.gc (by assumption) | exact isW.gx (by assumption) | exact isW.gF (by assumption) | exact isW.gT (by assumption) (by omega) | exact isW.gS (by assumption) (by omega) | exact isW.gK (by assumption) (by omega) | exact isW.g1 (by assumption) | exact isW.g2 (by assumption) | exact isW.g3 (by assumption) | exact isI.gx (isW.i0 (by assumption)) | exact isI.gc (isW.i0 (by assumption)) | exact isI.gx (isW.i1 (by assumption)) | exact isI.gc (isW.i1 (by assumption)) | exact isI.gx (isW.i2 (by assumption)) | exact isI.gc (isW.i2 (by assumption)) | exact isI.gx (isW.i3 (by assumption)) | exact isI.gc (isW.i3 (by assumption)) | exact isI.gx (isW.i4 (by assumption)) | exact isI.gc (isW.i4 (by assumption)) | exact isI.gx (isW.i5 (by assumption)) | exact isI.gc (isW.i5 (by assumption)) | exact isR.gx (by assumption) | exact isRd.gx (by assumption) | exact isSp.gx (by assumption) | exact isI.gx (isR.i (by assumption)) | exact isI.gx (isRd.i (by assumption)) | exact isI.gc (isRd.i (by assumption)) | exact isI.gx (isSp.i (by assumption)) | exact isW.gx (isR.w (by assumption)) | exact isW.gF (isR.w (by assumption)) | fail "no such object") (by rfl) ?_
  refine r_iload_n (pc := 13) dX3_beginTurn_13 rfl ?_
  refine r_callV1 (pc := 14) dX3_beginTurn_14 qX9_taskAt kX3_57 vX9_taskAt (by first | assumption | exact isI.gx (by assumption) | exact isI.gc (by assumption) | exact isW.gx (by assumption) | exact isW.gF (by assumption) | exact isW.gT (by assumption) (by omega) | exact isW.gS (by assumption) (by omega) | exact isW.gK (by assumption) (by omega) | exact isW.g1 (by assumption) | exact isW.g2 (by assumption) | exact isW.g3 (by assumption) | exact isI.gx (isW.i0 (by assumption)) | exact isI.gc (isW.i0 (by assumption)) | exact isI.gx (isW.i1 (by assumption)) | exact isI.gc (isW.i1 (by assumption)) | exact isI.gx (isW.i2 (by assumption)) | exact isI.gc (isW.i2 (by assumption)) | exact isI.gx (isW.i3 (by assumption)) | exact isI.gc (isW.i3 (by assumption)) | exact isI.gx (isW.i4 (by assumption)) | exact isI.gc (isW.i4 (by assumption)) | exact isI.gx (isW.i5 (by assumption)) | exact isI.gc (isW.i5 (by assumption)) | exact isR.gx (by assumption) | exact isRd.gx (by assumption) | exact isSp.gx (by assumption) | exact isI.gx (isR.i (by assumption)) | exact isI.gx (isRd.i (by assumption)) | exact isI.gc (isRd.i (by assumption)) | exact isI.gx (isSp.i (by assumption)) | exact isW.gx (isR.w (by assumption)) | exact isW.gF (isR.w (by assumption)) | fail "no such object") rfl rfl (Nat.le_of_ble_eq_true rfl) (cw_taskAt _ hR.w hc (i := (q : Int)) ⟨by omega, by omega⟩) (fun v_14 h_14 q_14 => ?_)
  obtain ⟨q1_14, rfl⟩ := q_14
  · obtain rfl := tkAt_P (by omega) q1_14
    refine r_astore_n (pc := 17) dX3_beginTurn_17 (Nat.le_of_ble_eq_true rfl) (by first | rfl | exact isRefV_rf _) ?_
    dsimp only [lsSt, List.set, mLs, mEnt]
    refine r_aload_n (pc := 18) dX3_beginTurn_18 rfl (by first | rfl | exact isRefV_rf _) ?_
    refine r_ifnonnull (pc := 19) (tgt := 25) dX3_beginTurn_19 (by decide) (by first | rfl | exact isRefV_rf _) (fun a_19 c_19 => ?_) (fun c_19 => by cases c_19)
    rw [Int.toNat_natCast]
    refine r_aload_n (pc := 25) dX3_beginTurn_25 rfl (by first | rfl | exact isRefV_rf _) ?_
    refine r_getf (pc := 26) dX3_beginTurn_26 fX3_12 (by first | assumption | exact isI.gx (by assumption) | exact isI.gc (by assumption) | exact isW.gx (by assumption) | exact isW.gF (by assumption) | exact isW.gT (by assumption) (by omega) | exact isW.gS (by assumption) (by omega) | exact isW.gK (by assumption) (by omega) | exact isW.g1 (by assumption) | exact isW.g2 (by assumption) | exact isW.g3 (by assumption) | exact isI.gx (isW.i0 (by assumption)) | exact isI.gc (isW.i0 (by assumption)) | exact isI.gx (isW.i1 (by assumption)) | exact isI.gc (isW.i1 (by assumption)) | exact isI.gx (isW.i2 (by assumption)) | exact isI.gc (isW.i2 (by assumption)) | exact isI.gx (isW.i3 (by assumption)) | exact isI.gc (isW.i3 (by assumption)) | exact isI.gx (isW.i4 (by assumption)) | exact isI.gc (isW.i4 (by assumption)) | exact isI.gx (isW.i5 (by assumption)) | exact isI.gc (isW.i5 (by assumption)) | exact isR.gx (by assumption) | exact isRd.gx (by assumption) | exact isSp.gx (by assumption) | exact isI.gx (isR.i (by assumption)) | exact isI.gx (isRd.i (by assumption)) | exact isI.gc (isRd.i (by assumption)) | exact isI.gx (isSp.i (by assumption)) | exact isW.gx (isR.w (by assumption)) | exact isW.gF (isR.w (by assumption)) | fail "no such object") (by rfl) ?_
    refine r_dup (pc := 29) dX3_beginTurn_29 (by first | rfl | (cases ‹Option Nat› <;> rfl)) ?_
    refine r_getf (pc := 30) dX3_beginTurn_30 fX3_61 (by first | assumption | exact isI.gx (by assumption) | exact isI.gc (by assumption) | exact isW.gx (by assumption) | exact isW.gF (by assumption) | exact isW.gT (by assumption) (by omega) | exact isW.gS (by assumption) (by omega) | exact isW.gK (by assumption) (by omega) | exact isW.g1 (by assumption) | exact isW.g2 (by assumption) | exact isW.g3 (by assumption) | exact isI.gx (isW.i0 (by assumption)) | exact isI.gc (isW.i0 (by assumption)) | exact isI.gx (isW.i1 (by assumption)) | exact isI.gc (isW.i1 (by assumption)) | exact isI.gx (isW.i2 (by assumption)) | exact isI.gc (isW.i2 (by assumption)) | exact isI.gx (isW.i3 (by assumption)) | exact isI.gc (isW.i3 (by assumption)) | exact isI.gx (isW.i4 (by assumption)) | exact isI.gc (isW.i4 (by assumption)) | exact isI.gx (isW.i5 (by assumption)) | exact isI.gc (isW.i5 (by assumption)) | exact isR.gx (by assumption) | exact isRd.gx (by assumption) | exact isSp.gx (by assumption) | exact isI.gx (isR.i (by assumption)) | exact isI.gx (isRd.i (by assumption)) | exact isI.gc (isRd.i (by assumption)) | exact isI.gx (isSp.i (by assumption)) | exact isW.gx (isR.w (by assumption)) | exact isW.gF (isR.w (by assumption)) | fail "no such object") (by rfl) ?_
    refine rj_iconst (pc := 33) dX3_beginTurn_33 ?_
    refine rj_iadd (pc := 34) dX3_beginTurn_34 ?_
    refine rc_putw3 (pc := 35) dX3_beginTurn_35 fX3_61 (by assumption) (fun h_35 hW_35 hS_35 => ?_)
    refine r_aload_n (pc := 38) dX3_beginTurn_38 rfl (by first | rfl | exact isRefV_rf _) ?_
    refine r_dup (pc := 39) dX3_beginTurn_39 (by first | rfl | (cases ‹Option Nat› <;> rfl)) ?_
    refine r_getf (pc := 40) dX3_beginTurn_40 fX3_64 (by first | assumption | exact isI.gx (by assumption) | exact isI.gc (by assumption) | exact isW.gx (by assumption) | exact isW.gF (by assumption) | exact isW.gT (by assumption) (by omega) | exact isW.gS (by assumption) (by omega) | exact isW.gK (by assumption) (by omega) | exact isW.g1 (by assumption) | exact isW.g2 (by assumption) | exact isW.g3 (by assumption) | exact isI.gx (isW.i0 (by assumption)) | exact isI.gc (isW.i0 (by assumption)) | exact isI.gx (isW.i1 (by assumption)) | exact isI.gc (isW.i1 (by assumption)) | exact isI.gx (isW.i2 (by assumption)) | exact isI.gc (isW.i2 (by assumption)) | exact isI.gx (isW.i3 (by assumption)) | exact isI.gc (isW.i3 (by assumption)) | exact isI.gx (isW.i4 (by assumption)) | exact isI.gc (isW.i4 (by assumption)) | exact isI.gx (isW.i5 (by assumption)) | exact isI.gc (isW.i5 (by assumption)) | exact isR.gx (by assumption) | exact isRd.gx (by assumption) | exact isSp.gx (by assumption) | exact isI.gx (isR.i (by assumption)) | exact isI.gx (isRd.i (by assumption)) | exact isI.gc (isRd.i (by assumption)) | exact isI.gx (isSp.i (by assumption)) | exact isW.gx (isR.w (by assumption)) | exact isW.gF (isR.w (by assumption)) | fail "no such object") (by rfl) ?_
    refine rj_iconst (pc := 43) dX3_beginTurn_43 ?_
    rw [show updI c 3 (c 3 + 1) (491 + 9 * q) = c (491 + 9 * q) from updI_n (by omega)]
    refine rj_iadd (pc := 44) dX3_beginTurn_44 ?_
    refine rc_putK5 (pc := 45) dX3_beginTurn_45 fX3_64 (by assumption) (by omega) (fun h_45 hW_45 hS_45 => ?_)
    have Q_45 := (hR.ofWr (hS_35.trans hS_45) hW_45).1
    refine r_aload_n (pc := 48) dX3_beginTurn_48 rfl (by first | rfl | exact isRefV_rf _) ?_
    refine r_aload_n (pc := 49) dX3_beginTurn_49 rfl (by first | rfl | exact isRefV_rf _) ?_
    refine r_getf (pc := 50) dX3_beginTurn_50 fX3_12 (by first | assumption | exact isI.gx (by assumption) | exact isI.gc (by assumption) | exact isW.gx (by assumption) | exact isW.gF (by assumption) | exact isW.gT (by assumption) (by omega) | exact isW.gS (by assumption) (by omega) | exact isW.gK (by assumption) (by omega) | exact isW.g1 (by assumption) | exact isW.g2 (by assumption) | exact isW.g3 (by assumption) | exact isI.gx (isW.i0 (by assumption)) | exact isI.gc (isW.i0 (by assumption)) | exact isI.gx (isW.i1 (by assumption)) | exact isI.gc (isW.i1 (by assumption)) | exact isI.gx (isW.i2 (by assumption)) | exact isI.gc (isW.i2 (by assumption)) | exact isI.gx (isW.i3 (by assumption)) | exact isI.gc (isW.i3 (by assumption)) | exact isI.gx (isW.i4 (by assumption)) | exact isI.gc (isW.i4 (by assumption)) | exact isI.gx (isW.i5 (by assumption)) | exact isI.gc (isW.i5 (by assumption)) | exact isR.gx (by assumption) | exact isRd.gx (by assumption) | exact isSp.gx (by assumption) | exact isI.gx (isR.i (by assumption)) | exact isI.gx (isRd.i (by assumption)) | exact isI.gc (isRd.i (by assumption)) | exact isI.gx (isSp.i (by assumption)) | exact isW.gx (isR.w (by assumption)) | exact isW.gF (isR.w (by assumption)) | fail "no such object") (by rfl) ?_
    refine r_getf (pc := 53) dX3_beginTurn_53 fX3_61 (by first | assumption | exact isI.gx (by assumption) | exact isI.gc (by assumption) | exact isW.gx (by assumption) | exact isW.gF (by assumption) | exact isW.gT (by assumption) (by omega) | exact isW.gS (by assumption) (by omega) | exact isW.gK (by assumption) (by omega) | exact isW.g1 (by assumption) | exact isW.g2 (by assumption) | exact isW.g3 (by assumption) | exact isI.gx (isW.i0 (by assumption)) | exact isI.gc (isW.i0 (by assumption)) | exact isI.gx (isW.i1 (by assumption)) | exact isI.gc (isW.i1 (by assumption)) | exact isI.gx (isW.i2 (by assumption)) | exact isI.gc (isW.i2 (by assumption)) | exact isI.gx (isW.i3 (by assumption)) | exact isI.gc (isW.i3 (by assumption)) | exact isI.gx (isW.i4 (by assumption)) | exact isI.gc (isW.i4 (by assumption)) | exact isI.gx (isW.i5 (by assumption)) | exact isI.gc (isW.i5 (by assumption)) | exact isR.gx (by assumption) | exact isRd.gx (by assumption) | exact isSp.gx (by assumption) | exact isI.gx (isR.i (by assumption)) | exact isI.gx (isRd.i (by assumption)) | exact isI.gc (isRd.i (by assumption)) | exact isI.gx (isSp.i (by assumption)) | exact isW.gx (isR.w (by assumption)) | exact isW.gF (isR.w (by assumption)) | fail "no such object") (by rfl) ?_
    rw [show updI (updI c 3 (c 3 + 1)) (491 + 9 * q) (c (491 + 9 * q) + 1) 3 = c 3 + 1 from (updI_n (by omega)).trans updI_s]
    refine rc_putK6 (pc := 56) dX3_beginTurn_56 fX3_67 (by assumption) (by omega) (fun h_56 hW_56 hS_56 => ?_)
    have W_56 : isW h_56 (rA r 1) (btC c q) C nm g := hW_56
    have T_56 := hR.ofWr ((hS_35.trans hS_45).trans hS_56) W_56
    have Q_56 := T_56.1
    clear hW_56
    have e6 : btC c q (496 + 9 * q) = c (496 + 9 * q) := btC_o (by omega)
    have e4 : btC c q (494 + 9 * q) = (u : Int) := (btC_o (by omega)).trans hu
    have e0 : btC c q (304 + 3 * u) = c (304 + 3 * u) := btC_o (by omega)
    have e1 : btC c q 1 = c 1 := btC_o (by omega)
    have hcb : ∀ k, InR (btC c q k) := updI_R (updI_R (updI_R hc t3) t4) t3
    have r6 := hc (496 + 9 * q)
    refine r_aload_n (pc := 59) dX3_beginTurn_59 rfl (by first | rfl | exact isRefV_rf _) ?_
    refine r_getf (pc := 60) dX3_beginTurn_60 fX3_70 (by first | assumption | exact isI.gx (by assumption) | exact isI.gc (by assumption) | exact isW.gx (by assumption) | exact isW.gF (by assumption) | exact isW.gT (by assumption) (by omega) | exact isW.gS (by assumption) (by omega) | exact isW.gK (by assumption) (by omega) | exact isW.g1 (by assumption) | exact isW.g2 (by assumption) | exact isW.g3 (by assumption) | exact isI.gx (isW.i0 (by assumption)) | exact isI.gc (isW.i0 (by assumption)) | exact isI.gx (isW.i1 (by assumption)) | exact isI.gc (isW.i1 (by assumption)) | exact isI.gx (isW.i2 (by assumption)) | exact isI.gc (isW.i2 (by assumption)) | exact isI.gx (isW.i3 (by assumption)) | exact isI.gc (isW.i3 (by assumption)) | exact isI.gx (isW.i4 (by assumption)) | exact isI.gc (isW.i4 (by assumption)) | exact isI.gx (isW.i5 (by assumption)) | exact isI.gc (isW.i5 (by assumption)) | exact isR.gx (by assumption) | exact isRd.gx (by assumption) | exact isSp.gx (by assumption) | exact isI.gx (isR.i (by assumption)) | exact isI.gx (isRd.i (by assumption)) | exact isI.gc (isRd.i (by assumption)) | exact isI.gx (isSp.i (by assumption)) | exact isW.gx (isR.w (by assumption)) | exact isW.gF (isR.w (by assumption)) | fail "no such object") (by rfl) ?_
    rw [e6]
    refine rj_if_ne (pc := 63) (tgt := 80) dX3_beginTurn_63 (by decide) (by first | exact b01_r | exact bz_r | omega | (constructor <;> omega) | apply_assumption | (apply atF_r; assumption) | fail "no range") (fun c_63 => ?_) (fun c_63 => ?_)
    · try simp only [b01_0, bz_0, Classical.not_not] at c_63
      refine r_aload_n (pc := 80) dX3_beginTurn_80 rfl (by first | rfl | exact isRefV_rf _) ?_
      refine rj_iconst (pc := 81) dX3_beginTurn_81 ?_
      refine rc_putK3 (pc := 82) dX3_beginTurn_82 fX3_81 (by assumption) (by omega) (fun h_82 hW_82 hS_82 => ?_)
      have Q_x := (Q_56.ofWr hS_82 hW_82).1
      refine r_aload_n (pc := 85) dX3_beginTurn_85 rfl (by first | rfl | exact isRefV_rf _) ?_
      refine r_iload_n (pc := 86) dX3_beginTurn_86 rfl ?_
      refine rc_putR (pc := 87) dX3_beginTurn_87 fX3_27 (by assumption) (fun h_87 hW_87 hS_87 => ?_)
      refine r_aload_n (pc := 90) dX3_beginTurn_90 rfl (by first | rfl | exact isRefV_rf _) ?_
      refine r_getf (pc := 91) dX3_beginTurn_91 fX3_23 (by first | assumption | exact isI.gx (by assumption) | exact isI.gc (by assumption) | exact isW.gx (by assumption) | exact isW.gF (by assumption) | exact isW.gT (by assumption) (by omega) | exact isW.gS (by assumption) (by omega) | exact isW.gK (by assumption) (by omega) | exact isW.g1 (by assumption) | exact isW.g2 (by assumption) | exact isW.g3 (by assumption) | exact isI.gx (isW.i0 (by assumption)) | exact isI.gc (isW.i0 (by assumption)) | exact isI.gx (isW.i1 (by assumption)) | exact isI.gc (isW.i1 (by assumption)) | exact isI.gx (isW.i2 (by assumption)) | exact isI.gc (isW.i2 (by assumption)) | exact isI.gx (isW.i3 (by assumption)) | exact isI.gc (isW.i3 (by assumption)) | exact isI.gx (isW.i4 (by assumption)) | exact isI.gc (isW.i4 (by assumption)) | exact isI.gx (isW.i5 (by assumption)) | exact isI.gc (isW.i5 (by assumption)) | exact isR.gx (by assumption) | exact isRd.gx (by assumption) | exact isSp.gx (by assumption) | exact isI.gx (isR.i (by assumption)) | exact isI.gx (isRd.i (by assumption)) | exact isI.gc (isRd.i (by assumption)) | exact isI.gx (isSp.i (by assumption)) | exact isW.gx (isR.w (by assumption)) | exact isW.gF (isR.w (by assumption)) | fail "no such object") (by rfl) ?_
      refine rj_sipush (pc := 94) dX3_beginTurn_94 (by decide +kernel) ?_
      refine r_iload_n (pc := 97) dX3_beginTurn_97 rfl ?_
      refine rj_iadd (pc := 98) dX3_beginTurn_98 ?_
      refine r_callV1 (pc := 99) dX3_beginTurn_99 qX1_append kX3_84 vX1_append (by first | assumption | exact isI.gx (by assumption) | exact isI.gc (by assumption) | exact isW.gx (by assumption) | exact isW.gF (by assumption) | exact isW.gT (by assumption) (by omega) | exact isW.gS (by assumption) (by omega) | exact isW.gK (by assumption) (by omega) | exact isW.g1 (by assumption) | exact isW.g2 (by assumption) | exact isW.g3 (by assumption) | exact isI.gx (isW.i0 (by assumption)) | exact isI.gc (isW.i0 (by assumption)) | exact isI.gx (isW.i1 (by assumption)) | exact isI.gc (isW.i1 (by assumption)) | exact isI.gx (isW.i2 (by assumption)) | exact isI.gc (isW.i2 (by assumption)) | exact isI.gx (isW.i3 (by assumption)) | exact isI.gc (isW.i3 (by assumption)) | exact isI.gx (isW.i4 (by assumption)) | exact isI.gc (isW.i4 (by assumption)) | exact isI.gx (isW.i5 (by assumption)) | exact isI.gc (isW.i5 (by assumption)) | exact isR.gx (by assumption) | exact isRd.gx (by assumption) | exact isSp.gx (by assumption) | exact isI.gx (isR.i (by assumption)) | exact isI.gx (isRd.i (by assumption)) | exact isI.gc (isRd.i (by assumption)) | exact isI.gx (isSp.i (by assumption)) | exact isW.gx (isR.w (by assumption)) | exact isW.gF (isR.w (by assumption)) | fail "no such object") rfl rfl (Nat.le_of_ble_eq_true rfl) (ci_append _ hW_87.i (by decide) ⟨by omega, by omega⟩ (200 + (q : Int))) (fun v_99 h_99 q_99 => ?_)
      obtain ⟨rfl, I_99, S_99⟩ := q_99
      rw [if_pos (by omega), if_pos (by omega)] at I_99
      refine r_pop (pc := 102) dX3_beginTurn_102 (by first | rfl | (cases ‹Option Nat› <;> rfl)) ?_
      refine r_iload_n (pc := 103) dX3_beginTurn_103 rfl ?_
      refine r_ireturn (pc := 104) .int dX3_beginTurn_104 rfl (by first | rfl | assumption) ?_
      exact ⟨rfl, hW_87.ofI S_99 I_99, ((T_56.2.trans (hS_82.mono (fun q hq => w_rBlk hq))).trans hS_87).trans (S_99.mono (fun q hq => i_rBlk hq))⟩
    · try simp only [b01_0, bz_0, Classical.not_not] at c_63
      refine r_aload_n (pc := 66) dX3_beginTurn_66 rfl (by first | rfl | exact isRefV_rf _) ?_
      refine r_getf (pc := 67) dX3_beginTurn_67 fX3_12 (by first | assumption | exact isI.gx (by assumption) | exact isI.gc (by assumption) | exact isW.gx (by assumption) | exact isW.gF (by assumption) | exact isW.gT (by assumption) (by omega) | exact isW.gS (by assumption) (by omega) | exact isW.gK (by assumption) (by omega) | exact isW.g1 (by assumption) | exact isW.g2 (by assumption) | exact isW.g3 (by assumption) | exact isI.gx (isW.i0 (by assumption)) | exact isI.gc (isW.i0 (by assumption)) | exact isI.gx (isW.i1 (by assumption)) | exact isI.gc (isW.i1 (by assumption)) | exact isI.gx (isW.i2 (by assumption)) | exact isI.gc (isW.i2 (by assumption)) | exact isI.gx (isW.i3 (by assumption)) | exact isI.gc (isW.i3 (by assumption)) | exact isI.gx (isW.i4 (by assumption)) | exact isI.gc (isW.i4 (by assumption)) | exact isI.gx (isW.i5 (by assumption)) | exact isI.gc (isW.i5 (by assumption)) | exact isR.gx (by assumption) | exact isRd.gx (by assumption) | exact isSp.gx (by assumption) | exact isI.gx (isR.i (by assumption)) | exact isI.gx (isRd.i (by assumption)) | exact isI.gc (isRd.i (by assumption)) | exact isI.gx (isSp.i (by assumption)) | exact isW.gx (isR.w (by assumption)) | exact isW.gF (isR.w (by assumption)) | fail "no such object") (by rfl) ?_
      refine r_aload_n (pc := 70) dX3_beginTurn_70 rfl (by first | rfl | exact isRefV_rf _) ?_
      refine r_getf (pc := 71) dX3_beginTurn_71 fX3_74 (by first | assumption | exact isI.gx (by assumption) | exact isI.gc (by assumption) | exact isW.gx (by assumption) | exact isW.gF (by assumption) | exact isW.gT (by assumption) (by omega) | exact isW.gS (by assumption) (by omega) | exact isW.gK (by assumption) (by omega) | exact isW.g1 (by assumption) | exact isW.g2 (by assumption) | exact isW.g3 (by assumption) | exact isI.gx (isW.i0 (by assumption)) | exact isI.gc (isW.i0 (by assumption)) | exact isI.gx (isW.i1 (by assumption)) | exact isI.gc (isW.i1 (by assumption)) | exact isI.gx (isW.i2 (by assumption)) | exact isI.gc (isW.i2 (by assumption)) | exact isI.gx (isW.i3 (by assumption)) | exact isI.gc (isW.i3 (by assumption)) | exact isI.gx (isW.i4 (by assumption)) | exact isI.gc (isW.i4 (by assumption)) | exact isI.gx (isW.i5 (by assumption)) | exact isI.gc (isW.i5 (by assumption)) | exact isR.gx (by assumption) | exact isRd.gx (by assumption) | exact isSp.gx (by assumption) | exact isI.gx (isR.i (by assumption)) | exact isI.gx (isRd.i (by assumption)) | exact isI.gc (isRd.i (by assumption)) | exact isI.gx (isSp.i (by assumption)) | exact isW.gx (isR.w (by assumption)) | exact isW.gF (isR.w (by assumption)) | fail "no such object") (by rfl) ?_
      rw [e4]
      refine r_callV1 (pc := 74) dX3_beginTurn_74 qX9_isOpen kX3_77 vX9_isOpen (by first | assumption | exact isI.gx (by assumption) | exact isI.gc (by assumption) | exact isW.gx (by assumption) | exact isW.gF (by assumption) | exact isW.gT (by assumption) (by omega) | exact isW.gS (by assumption) (by omega) | exact isW.gK (by assumption) (by omega) | exact isW.g1 (by assumption) | exact isW.g2 (by assumption) | exact isW.g3 (by assumption) | exact isI.gx (isW.i0 (by assumption)) | exact isI.gc (isW.i0 (by assumption)) | exact isI.gx (isW.i1 (by assumption)) | exact isI.gc (isW.i1 (by assumption)) | exact isI.gx (isW.i2 (by assumption)) | exact isI.gc (isW.i2 (by assumption)) | exact isI.gx (isW.i3 (by assumption)) | exact isI.gc (isW.i3 (by assumption)) | exact isI.gx (isW.i4 (by assumption)) | exact isI.gc (isW.i4 (by assumption)) | exact isI.gx (isW.i5 (by assumption)) | exact isI.gc (isW.i5 (by assumption)) | exact isR.gx (by assumption) | exact isRd.gx (by assumption) | exact isSp.gx (by assumption) | exact isI.gx (isR.i (by assumption)) | exact isI.gx (isRd.i (by assumption)) | exact isI.gc (isRd.i (by assumption)) | exact isI.gx (isSp.i (by assumption)) | exact isW.gx (isR.w (by assumption)) | exact isW.gF (isR.w (by assumption)) | fail "no such object") rfl rfl (Nat.le_of_ble_eq_true rfl) (cw_isOpen _ Q_56.w hcb (i := (u : Int)) ⟨by omega, by omega⟩) (fun v_74 h_74 q_74 => ?_)
      obtain ⟨rfl, rfl⟩ := q_74
      rw [Int.toNat_natCast, e0]
      refine rj_if_ne (pc := 77) (tgt := 85) dX3_beginTurn_77 (by decide) (by first | exact b01_r | exact bz_r | omega | (constructor <;> omega) | apply_assumption | (apply atF_r; assumption) | fail "no range") (fun c_77 => ?_) (fun c_77 => ?_)
      · try simp only [b01_0, bz_0, Classical.not_not] at c_77
        exfalso; omega
      · try simp only [b01_0, bz_0, Classical.not_not] at c_77
        refine r_aload_n (pc := 80) dX3_beginTurn_80 rfl (by first | rfl | exact isRefV_rf _) ?_
        refine rj_iconst (pc := 81) dX3_beginTurn_81 ?_
        refine rc_putK3 (pc := 82) dX3_beginTurn_82 fX3_81 (by assumption) (by omega) (fun h_82 hW_82 hS_82 => ?_)
        have Q_x := (Q_56.ofWr hS_82 hW_82).1
        refine r_aload_n (pc := 85) dX3_beginTurn_85 rfl (by first | rfl | exact isRefV_rf _) ?_
        refine r_iload_n (pc := 86) dX3_beginTurn_86 rfl ?_
        refine rc_putR (pc := 87) dX3_beginTurn_87 fX3_27 (by assumption) (fun h_87 hW_87 hS_87 => ?_)
        refine r_aload_n (pc := 90) dX3_beginTurn_90 rfl (by first | rfl | exact isRefV_rf _) ?_
        refine r_getf (pc := 91) dX3_beginTurn_91 fX3_23 (by first | assumption | exact isI.gx (by assumption) | exact isI.gc (by assumption) | exact isW.gx (by assumption) | exact isW.gF (by assumption) | exact isW.gT (by assumption) (by omega) | exact isW.gS (by assumption) (by omega) | exact isW.gK (by assumption) (by omega) | exact isW.g1 (by assumption) | exact isW.g2 (by assumption) | exact isW.g3 (by assumption) | exact isI.gx (isW.i0 (by assumption)) | exact isI.gc (isW.i0 (by assumption)) | exact isI.gx (isW.i1 (by assumption)) | exact isI.gc (isW.i1 (by assumption)) | exact isI.gx (isW.i2 (by assumption)) | exact isI.gc (isW.i2 (by assumption)) | exact isI.gx (isW.i3 (by assumption)) | exact isI.gc (isW.i3 (by assumption)) | exact isI.gx (isW.i4 (by assumption)) | exact isI.gc (isW.i4 (by assumption)) | exact isI.gx (isW.i5 (by assumption)) | exact isI.gc (isW.i5 (by assumption)) | exact isR.gx (by assumption) | exact isRd.gx (by assumption) | exact isSp.gx (by assumption) | exact isI.gx (isR.i (by assumption)) | exact isI.gx (isRd.i (by assumption)) | exact isI.gc (isRd.i (by assumption)) | exact isI.gx (isSp.i (by assumption)) | exact isW.gx (isR.w (by assumption)) | exact isW.gF (isR.w (by assumption)) | fail "no such object") (by rfl) ?_
        refine rj_sipush (pc := 94) dX3_beginTurn_94 (by decide +kernel) ?_
        refine r_iload_n (pc := 97) dX3_beginTurn_97 rfl ?_
        refine rj_iadd (pc := 98) dX3_beginTurn_98 ?_
        refine r_callV1 (pc := 99) dX3_beginTurn_99 qX1_append kX3_84 vX1_append (by first | assumption | exact isI.gx (by assumption) | exact isI.gc (by assumption) | exact isW.gx (by assumption) | exact isW.gF (by assumption) | exact isW.gT (by assumption) (by omega) | exact isW.gS (by assumption) (by omega) | exact isW.gK (by assumption) (by omega) | exact isW.g1 (by assumption) | exact isW.g2 (by assumption) | exact isW.g3 (by assumption) | exact isI.gx (isW.i0 (by assumption)) | exact isI.gc (isW.i0 (by assumption)) | exact isI.gx (isW.i1 (by assumption)) | exact isI.gc (isW.i1 (by assumption)) | exact isI.gx (isW.i2 (by assumption)) | exact isI.gc (isW.i2 (by assumption)) | exact isI.gx (isW.i3 (by assumption)) | exact isI.gc (isW.i3 (by assumption)) | exact isI.gx (isW.i4 (by assumption)) | exact isI.gc (isW.i4 (by assumption)) | exact isI.gx (isW.i5 (by assumption)) | exact isI.gc (isW.i5 (by assumption)) | exact isR.gx (by assumption) | exact isRd.gx (by assumption) | exact isSp.gx (by assumption) | exact isI.gx (isR.i (by assumption)) | exact isI.gx (isRd.i (by assumption)) | exact isI.gc (isRd.i (by assumption)) | exact isI.gx (isSp.i (by assumption)) | exact isW.gx (isR.w (by assumption)) | exact isW.gF (isR.w (by assumption)) | fail "no such object") rfl rfl (Nat.le_of_ble_eq_true rfl) (ci_append _ hW_87.i (by decide) ⟨by omega, by omega⟩ (200 + (q : Int))) (fun v_99 h_99 q_99 => ?_)
        obtain ⟨rfl, I_99, S_99⟩ := q_99
        rw [if_pos (by omega), if_pos (by omega)] at I_99
        refine r_pop (pc := 102) dX3_beginTurn_102 (by first | rfl | (cases ‹Option Nat› <;> rfl)) ?_
        refine r_iload_n (pc := 103) dX3_beginTurn_103 rfl ?_
        refine r_ireturn (pc := 104) .int dX3_beginTurn_104 rfl (by first | rfl | assumption) ?_
        exact ⟨rfl, hW_87.ofI S_99 I_99, ((T_56.2.trans (hS_82.mono (fun q hq => w_rBlk hq))).trans hS_87).trans (S_99.mono (fun q hq => i_rBlk hq))⟩
end mg_9f
section mg_9g
/-! ===== the class: the loop of its work ===== -/
set_option maxHeartbeats 4000000 in
set_option maxRecDepth 100000 in
theorem wk_end {G : mG} {l : Launch} (d : Nat) {h : mH} {r : Nat} {b : Int} {f : Nat → Int} {c : Nat → Int} {C : Nat → Nat → Int} {nm : Nat → Int64} {g : Nat → Option Nat} (hR : isR h r b 0 f c C nm g) {k : Nat} (hk : k < 1000000) {o : Option Value} : RUN G l d mX3_work 2 [some (.ref r), some (.int (J (k : Int))), o] [] h (fun v h' => v = none ∧ isR h' r b 0 f c C nm g ∧ Same (rBlk r) h h') := by
  refine r_iload_n (pc := 2) dX3_work_2 rfl ?_
  refine rj_ldc 1000000 (pc := 3) dX3_work_3 oX3_87 (by decide +kernel) ?_
  refine rj_icmp_ge (pc := 5) (tgt := 82) dX3_work_5 (by decide) (by first | exact b01_r | exact bz_r | omega | (constructor <;> omega) | apply_assumption | (apply atF_r; assumption) | fail "no range") (by first | exact b01_r | exact bz_r | omega | (constructor <;> omega) | apply_assumption | (apply atF_r; assumption) | fail "no range") (fun c_5 => ?_) (fun c_5 => ?_)
  · exfalso
    first | omega | exact absurd trivial ‹¬ True›
  · refine r_aload_n (pc := 8) dX3_work_8 rfl (by first | rfl | exact isRefV_rf _) ?_
    refine r_getf (pc := 9) dX3_work_9 fX3_23 (by first | assumption | exact isI.gx (by assumption) | exact isI.gc (by assumption) | exact isW.gx (by assumption) | exact isW.gF (by assumption) | exact isW.gT (by assumption) (by omega) | exact isW.gS (by assumption) (by omega) | exact isW.gK (by assumption) (by omega) | exact isW.g1 (by assumption) | exact isW.g2 (by assumption) | exact isW.g3 (by assumption) | exact isI.gx (isW.i0 (by assumption)) | exact isI.gc (isW.i0 (by assumption)) | exact isI.gx (isW.i1 (by assumption)) | exact isI.gc (isW.i1 (by assumption)) | exact isI.gx (isW.i2 (by assumption)) | exact isI.gc (isW.i2 (by assumption)) | exact isI.gx (isW.i3 (by assumption)) | exact isI.gc (isW.i3 (by assumption)) | exact isI.gx (isW.i4 (by assumption)) | exact isI.gc (isW.i4 (by assumption)) | exact isI.gx (isW.i5 (by assumption)) | exact isI.gc (isW.i5 (by assumption)) | exact isR.gx (by assumption) | exact isRd.gx (by assumption) | exact isSp.gx (by assumption) | exact isI.gx (isR.i (by assumption)) | exact isI.gx (isRd.i (by assumption)) | exact isI.gc (isRd.i (by assumption)) | exact isI.gx (isSp.i (by assumption)) | exact isW.gx (isR.w (by assumption)) | exact isW.gF (isR.w (by assumption)) | fail "no such object") (by rfl) ?_
    refine r_getf (pc := 12) dX3_work_12 fX3_88 (by first | assumption | exact isI.gx (by assumption) | exact isI.gc (by assumption) | exact isW.gx (by assumption) | exact isW.gF (by assumption) | exact isW.gT (by assumption) (by omega) | exact isW.gS (by assumption) (by omega) | exact isW.gK (by assumption) (by omega) | exact isW.g1 (by assumption) | exact isW.g2 (by assumption) | exact isW.g3 (by assumption) | exact isI.gx (isW.i0 (by assumption)) | exact isI.gc (isW.i0 (by assumption)) | exact isI.gx (isW.i1 (by assumption)) | exact isI.gc (isW.i1 (by assumption)) | exact isI.gx (isW.i2 (by assumption)) | exact isI.gc (isW.i2 (by assumption)) | exact isI.gx (isW.i3 (by assumption)) | exact isI.gc (isW.i3 (by assumption)) | exact isI.gx (isW.i4 (by assumption)) | exact isI.gc (isW.i4 (by assumption)) | exact isI.gx (isW.i5 (by assumption)) | exact isI.gc (isW.i5 (by assumption)) | exact isR.gx (by assumption) | exact isRd.gx (by assumption) | exact isSp.gx (by assumption) | exact isI.gx (isR.i (by assumption)) | exact isI.gx (isRd.i (by assumption)) | exact isI.gc (isRd.i (by assumption)) | exact isI.gx (isSp.i (by assumption)) | exact isW.gx (isR.w (by assumption)) | exact isW.gF (isR.w (by assumption)) | fail "no such object") (by rfl) ?_
    refine rj_if_le (pc := 15) (tgt := 82) dX3_work_15 (by decide) (by first | exact b01_r | exact bz_r | omega | (constructor <;> omega) | apply_assumption | (apply atF_r; assumption) | fail "no range") (fun c_15 => ?_) (fun c_15 => ?_)
    · refine r_aload_n (pc := 82) dX3_work_82 rfl (by first | rfl | exact isRefV_rf _) ?_
      refine r_getf (pc := 83) dX3_work_83 fX3_23 (by first | assumption | exact isI.gx (by assumption) | exact isI.gc (by assumption) | exact isW.gx (by assumption) | exact isW.gF (by assumption) | exact isW.gT (by assumption) (by omega) | exact isW.gS (by assumption) (by omega) | exact isW.gK (by assumption) (by omega) | exact isW.g1 (by assumption) | exact isW.g2 (by assumption) | exact isW.g3 (by assumption) | exact isI.gx (isW.i0 (by assumption)) | exact isI.gc (isW.i0 (by assumption)) | exact isI.gx (isW.i1 (by assumption)) | exact isI.gc (isW.i1 (by assumption)) | exact isI.gx (isW.i2 (by assumption)) | exact isI.gc (isW.i2 (by assumption)) | exact isI.gx (isW.i3 (by assumption)) | exact isI.gc (isW.i3 (by assumption)) | exact isI.gx (isW.i4 (by assumption)) | exact isI.gc (isW.i4 (by assumption)) | exact isI.gx (isW.i5 (by assumption)) | exact isI.gc (isW.i5 (by assumption)) | exact isR.gx (by assumption) | exact isRd.gx (by assumption) | exact isSp.gx (by assumption) | exact isI.gx (isR.i (by assumption)) | exact isI.gx (isRd.i (by assumption)) | exact isI.gc (isRd.i (by assumption)) | exact isI.gx (isSp.i (by assumption)) | exact isW.gx (isR.w (by assumption)) | exact isW.gF (isR.w (by assumption)) | fail "no such object") (by rfl) ?_
      refine rj_iconst (pc := 86) dX3_work_86 ?_
      refine rc_putz (pc := 87) dX3_work_87 fX3_88 (by first | assumption | exact isW.i0 (by assumption) | exact isW.i1 (by assumption) | exact isW.i2 (by assumption) | exact isW.i3 (by assumption) | exact isW.i4 (by assumption) | exact isW.i5 (by assumption) | exact isR.i (by assumption) | exact isRd.i (by assumption) | exact isSp.i (by assumption) | fail "no such row") (fun h_87 hI_87 hS_87 => ?_)
      refine r_return (pc := 90) dX3_work_90 rfl ?_
      exact ⟨rfl, hR.ofI hS_87 hI_87, hS_87.mono (fun q hq => i_rBlk hq)⟩
    · exfalso
      first | omega | exact absurd trivial ‹¬ True›
set_option maxHeartbeats 4000000 in
set_option maxRecDepth 100000 in
theorem wk_task {G : mG} {l : Launch} (d : Nat) {h : mH} {r : Nat} {b z : Int} {f : Nat → Int} {c : Nat → Int} {C : Nat → Nat → Int} {nm : Nat → Int64} {g : Nat → Option Nat} (hR : isR h r b z f c C nm g) (hz : 0 < z ∧ z ≤ 160) {k : Nat} (hk : k < 1000000) {o : Option Value} {q : Nat} (hq : q < 10) (htop : f (z.toNat - 1) = 200 + (q : Int)) {R : mH → Prop} {Q : Option Value → mH → Prop} (P : RUNM G l (d + 1) mX3_goOnWithTask [.ref r, .int (J (q : Int))] h (fun v h' => v = none ∧ R h')) (K : ∀ h' o', R h' → RUN G l (d + 2) mX3_work 2 [some (.ref r), some (.int (J ((k + 1 : Nat) : Int))), o'] [] h' Q) : RUN G l (d + 2) mX3_work 2 [some (.ref r), some (.int (J (k : Int))), o] [] h Q := by
  refine r_iload_n (pc := 2) dX3_work_2 rfl ?_
  refine rj_ldc 1000000 (pc := 3) dX3_work_3 oX3_87 (by decide +kernel) ?_
  refine rj_icmp_ge (pc := 5) (tgt := 82) dX3_work_5 (by decide) (by first | exact b01_r | exact bz_r | omega | (constructor <;> omega) | apply_assumption | (apply atF_r; assumption) | fail "no range") (by first | exact b01_r | exact bz_r | omega | (constructor <;> omega) | apply_assumption | (apply atF_r; assumption) | fail "no range") (fun c_5 => ?_) (fun c_5 => ?_)
  · exfalso; omega
  · refine r_aload_n (pc := 8) dX3_work_8 rfl (by first | rfl | exact isRefV_rf _) ?_
    refine r_getf (pc := 9) dX3_work_9 fX3_23 (by first | assumption | exact isI.gx (by assumption) | exact isI.gc (by assumption) | exact isW.gx (by assumption) | exact isW.gF (by assumption) | exact isW.gT (by assumption) (by omega) | exact isW.gS (by assumption) (by omega) | exact isW.gK (by assumption) (by omega) | exact isW.g1 (by assumption) | exact isW.g2 (by assumption) | exact isW.g3 (by assumption) | exact isI.gx (isW.i0 (by assumption)) | exact isI.gc (isW.i0 (by assumption)) | exact isI.gx (isW.i1 (by assumption)) | exact isI.gc (isW.i1 (by assumption)) | exact isI.gx (isW.i2 (by assumption)) | exact isI.gc (isW.i2 (by assumption)) | exact isI.gx (isW.i3 (by assumption)) | exact isI.gc (isW.i3 (by assumption)) | exact isI.gx (isW.i4 (by assumption)) | exact isI.gc (isW.i4 (by assumption)) | exact isI.gx (isW.i5 (by assumption)) | exact isI.gc (isW.i5 (by assumption)) | exact isR.gx (by assumption) | exact isRd.gx (by assumption) | exact isSp.gx (by assumption) | exact isI.gx (isR.i (by assumption)) | exact isI.gx (isRd.i (by assumption)) | exact isI.gc (isRd.i (by assumption)) | exact isI.gx (isSp.i (by assumption)) | exact isW.gx (isR.w (by assumption)) | exact isW.gF (isR.w (by assumption)) | fail "no such object") (by rfl) ?_
    refine r_getf (pc := 12) dX3_work_12 fX3_88 (by first | assumption | exact isI.gx (by assumption) | exact isI.gc (by assumption) | exact isW.gx (by assumption) | exact isW.gF (by assumption) | exact isW.gT (by assumption) (by omega) | exact isW.gS (by assumption) (by omega) | exact isW.gK (by assumption) (by omega) | exact isW.g1 (by assumption) | exact isW.g2 (by assumption) | exact isW.g3 (by assumption) | exact isI.gx (isW.i0 (by assumption)) | exact isI.gc (isW.i0 (by assumption)) | exact isI.gx (isW.i1 (by assumption)) | exact isI.gc (isW.i1 (by assumption)) | exact isI.gx (isW.i2 (by assumption)) | exact isI.gc (isW.i2 (by assumption)) | exact isI.gx (isW.i3 (by assumption)) | exact isI.gc (isW.i3 (by assumption)) | exact isI.gx (isW.i4 (by assumption)) | exact isI.gc (isW.i4 (by assumption)) | exact isI.gx (isW.i5 (by assumption)) | exact isI.gc (isW.i5 (by assumption)) | exact isR.gx (by assumption) | exact isRd.gx (by assumption) | exact isSp.gx (by assumption) | exact isI.gx (isR.i (by assumption)) | exact isI.gx (isRd.i (by assumption)) | exact isI.gc (isRd.i (by assumption)) | exact isI.gx (isSp.i (by assumption)) | exact isW.gx (isR.w (by assumption)) | exact isW.gF (isR.w (by assumption)) | fail "no such object") (by rfl) ?_
    refine rj_if_le (pc := 15) (tgt := 82) dX3_work_15 (by decide) (by first | exact b01_r | exact bz_r | omega | (constructor <;> omega) | apply_assumption | (apply atF_r; assumption) | fail "no range") (fun c_15 => ?_) (fun c_15 => ?_)
    · exfalso; omega
    · refine r_aload_n (pc := 18) dX3_work_18 rfl (by first | rfl | exact isRefV_rf _) ?_
      refine r_getf (pc := 19) dX3_work_19 fX3_23 (by first | assumption | exact isI.gx (by assumption) | exact isI.gc (by assumption) | exact isW.gx (by assumption) | exact isW.gF (by assumption) | exact isW.gT (by assumption) (by omega) | exact isW.gS (by assumption) (by omega) | exact isW.gK (by assumption) (by omega) | exact isW.g1 (by assumption) | exact isW.g2 (by assumption) | exact isW.g3 (by assumption) | exact isI.gx (isW.i0 (by assumption)) | exact isI.gc (isW.i0 (by assumption)) | exact isI.gx (isW.i1 (by assumption)) | exact isI.gc (isW.i1 (by assumption)) | exact isI.gx (isW.i2 (by assumption)) | exact isI.gc (isW.i2 (by assumption)) | exact isI.gx (isW.i3 (by assumption)) | exact isI.gc (isW.i3 (by assumption)) | exact isI.gx (isW.i4 (by assumption)) | exact isI.gc (isW.i4 (by assumption)) | exact isI.gx (isW.i5 (by assumption)) | exact isI.gc (isW.i5 (by assumption)) | exact isR.gx (by assumption) | exact isRd.gx (by assumption) | exact isSp.gx (by assumption) | exact isI.gx (isR.i (by assumption)) | exact isI.gx (isRd.i (by assumption)) | exact isI.gc (isRd.i (by assumption)) | exact isI.gx (isSp.i (by assumption)) | exact isW.gx (isR.w (by assumption)) | exact isW.gF (isR.w (by assumption)) | fail "no such object") (by rfl) ?_
      refine r_aload_n (pc := 22) dX3_work_22 rfl (by first | rfl | exact isRefV_rf _) ?_
      refine r_getf (pc := 23) dX3_work_23 fX3_23 (by first | assumption | exact isI.gx (by assumption) | exact isI.gc (by assumption) | exact isW.gx (by assumption) | exact isW.gF (by assumption) | exact isW.gT (by assumption) (by omega) | exact isW.gS (by assumption) (by omega) | exact isW.gK (by assumption) (by omega) | exact isW.g1 (by assumption) | exact isW.g2 (by assumption) | exact isW.g3 (by assumption) | exact isI.gx (isW.i0 (by assumption)) | exact isI.gc (isW.i0 (by assumption)) | exact isI.gx (isW.i1 (by assumption)) | exact isI.gc (isW.i1 (by assumption)) | exact isI.gx (isW.i2 (by assumption)) | exact isI.gc (isW.i2 (by assumption)) | exact isI.gx (isW.i3 (by assumption)) | exact isI.gc (isW.i3 (by assumption)) | exact isI.gx (isW.i4 (by assumption)) | exact isI.gc (isW.i4 (by assumption)) | exact isI.gx (isW.i5 (by assumption)) | exact isI.gc (isW.i5 (by assumption)) | exact isR.gx (by assumption) | exact isRd.gx (by assumption) | exact isSp.gx (by assumption) | exact isI.gx (isR.i (by assumption)) | exact isI.gx (isRd.i (by assumption)) | exact isI.gc (isRd.i (by assumption)) | exact isI.gx (isSp.i (by assumption)) | exact isW.gx (isR.w (by assumption)) | exact isW.gF (isR.w (by assumption)) | fail "no such object") (by rfl) ?_
      refine r_getf (pc := 26) dX3_work_26 fX3_88 (by first | assumption | exact isI.gx (by assumption) | exact isI.gc (by assumption) | exact isW.gx (by assumption) | exact isW.gF (by assumption) | exact isW.gT (by assumption) (by omega) | exact isW.gS (by assumption) (by omega) | exact isW.gK (by assumption) (by omega) | exact isW.g1 (by assumption) | exact isW.g2 (by assumption) | exact isW.g3 (by assumption) | exact isI.gx (isW.i0 (by assumption)) | exact isI.gc (isW.i0 (by assumption)) | exact isI.gx (isW.i1 (by assumption)) | exact isI.gc (isW.i1 (by assumption)) | exact isI.gx (isW.i2 (by assumption)) | exact isI.gc (isW.i2 (by assumption)) | exact isI.gx (isW.i3 (by assumption)) | exact isI.gc (isW.i3 (by assumption)) | exact isI.gx (isW.i4 (by assumption)) | exact isI.gc (isW.i4 (by assumption)) | exact isI.gx (isW.i5 (by assumption)) | exact isI.gc (isW.i5 (by assumption)) | exact isR.gx (by assumption) | exact isRd.gx (by assumption) | exact isSp.gx (by assumption) | exact isI.gx (isR.i (by assumption)) | exact isI.gx (isRd.i (by assumption)) | exact isI.gc (isRd.i (by assumption)) | exact isI.gx (isSp.i (by assumption)) | exact isW.gx (isR.w (by assumption)) | exact isW.gF (isR.w (by assumption)) | fail "no such object") (by rfl) ?_
      refine rj_iconst (pc := 29) dX3_work_29 ?_
      refine rj_isub (pc := 30) dX3_work_30 ?_
      refine r_callV1 (pc := 31) dX3_work_31 qX1_at kX3_91 vX1_at (by first | assumption | exact isI.gx (by assumption) | exact isI.gc (by assumption) | exact isW.gx (by assumption) | exact isW.gF (by assumption) | exact isW.gT (by assumption) (by omega) | exact isW.gS (by assumption) (by omega) | exact isW.gK (by assumption) (by omega) | exact isW.g1 (by assumption) | exact isW.g2 (by assumption) | exact isW.g3 (by assumption) | exact isI.gx (isW.i0 (by assumption)) | exact isI.gc (isW.i0 (by assumption)) | exact isI.gx (isW.i1 (by assumption)) | exact isI.gc (isW.i1 (by assumption)) | exact isI.gx (isW.i2 (by assumption)) | exact isI.gc (isW.i2 (by assumption)) | exact isI.gx (isW.i3 (by assumption)) | exact isI.gc (isW.i3 (by assumption)) | exact isI.gx (isW.i4 (by assumption)) | exact isI.gc (isW.i4 (by assumption)) | exact isI.gx (isW.i5 (by assumption)) | exact isI.gc (isW.i5 (by assumption)) | exact isR.gx (by assumption) | exact isRd.gx (by assumption) | exact isSp.gx (by assumption) | exact isI.gx (isR.i (by assumption)) | exact isI.gx (isRd.i (by assumption)) | exact isI.gc (isRd.i (by assumption)) | exact isI.gx (isSp.i (by assumption)) | exact isW.gx (isR.w (by assumption)) | exact isW.gF (isR.w (by assumption)) | fail "no such object") rfl rfl (Nat.le_of_ble_eq_true rfl) (ci_at _ hR.i (by decide) ⟨by omega, by omega⟩ (i := z - 1) ⟨by omega, by omega⟩) (fun v_31 h_31 q_31 => ?_)
      obtain ⟨rfl, rfl⟩ := q_31
      rw [show atF 160 z f (z - 1) = 200 + (q : Int) by unfold atF; rw [if_pos ⟨by omega, by omega, by omega⟩, show (z - 1).toNat = z.toNat - 1 by omega]; exact htop]
      refine r_istore_n (pc := 34) dX3_work_34 (Nat.le_of_ble_eq_true rfl) ?_
      dsimp only [lsSt, List.set, mLs, mEnt]
      refine r_iload_n (pc := 35) dX3_work_35 rfl ?_
      refine rj_sipush (pc := 36) dX3_work_36 (by decide +kernel) ?_
      refine rj_icmp_lt (pc := 39) (tgt := 54) dX3_work_39 (by decide) (by first | exact b01_r | exact bz_r | omega | (constructor <;> omega) | apply_assumption | (apply atF_r; assumption) | fail "no range") (by first | exact b01_r | exact bz_r | omega | (constructor <;> omega) | apply_assumption | (apply atF_r; assumption) | fail "no range") (fun c_39 => ?_) (fun c_39 => ?_)
      · exfalso; omega
      · refine r_aload_n (pc := 42) dX3_work_42 rfl (by first | rfl | exact isRefV_rf _) ?_
        refine r_iload_n (pc := 43) dX3_work_43 rfl ?_
        refine rj_sipush (pc := 44) dX3_work_44 (by decide +kernel) ?_
        refine rj_isub (pc := 47) dX3_work_47 ?_
        rw [show 200 + (q : Int) - 200 = (q : Int) by omega]
        refine r_callV1 (pc := 48) dX3_work_48 qX3_goOnWithTask kX3_94 vX3_goOnWithTask (by first | assumption | exact isI.gx (by assumption) | exact isI.gc (by assumption) | exact isW.gx (by assumption) | exact isW.gF (by assumption) | exact isW.gT (by assumption) (by omega) | exact isW.gS (by assumption) (by omega) | exact isW.gK (by assumption) (by omega) | exact isW.g1 (by assumption) | exact isW.g2 (by assumption) | exact isW.g3 (by assumption) | exact isI.gx (isW.i0 (by assumption)) | exact isI.gc (isW.i0 (by assumption)) | exact isI.gx (isW.i1 (by assumption)) | exact isI.gc (isW.i1 (by assumption)) | exact isI.gx (isW.i2 (by assumption)) | exact isI.gc (isW.i2 (by assumption)) | exact isI.gx (isW.i3 (by assumption)) | exact isI.gc (isW.i3 (by assumption)) | exact isI.gx (isW.i4 (by assumption)) | exact isI.gc (isW.i4 (by assumption)) | exact isI.gx (isW.i5 (by assumption)) | exact isI.gc (isW.i5 (by assumption)) | exact isR.gx (by assumption) | exact isRd.gx (by assumption) | exact isSp.gx (by assumption) | exact isI.gx (isR.i (by assumption)) | exact isI.gx (isRd.i (by assumption)) | exact isI.gc (isRd.i (by assumption)) | exact isI.gx (isSp.i (by assumption)) | exact isW.gx (isR.w (by assumption)) | exact isW.gF (isR.w (by assumption)) | fail "no such object") rfl rfl (Nat.le_of_ble_eq_true rfl) (P) (fun v_48 h_48 q_48 => ?_)
        obtain ⟨rfl, R_48⟩ := q_48
        refine r_goto (pc := 51) (tgt := 76) dX3_work_51 (by decide) ?_
        refine rj_iinc (pc := 76) dX3_work_76 (Nat.le_of_ble_eq_true rfl) rfl ?_
        dsimp only [lsSt, List.set, mLs, mEnt]
        refine r_goto (pc := 79) (tgt := 2) dX3_work_79 (by decide) ?_
        have y := K _ (some (.int (J (200 + (q : Int))))) R_48
        rw [show ((k + 1 : Nat) : Int) = (k : Int) + 1 by omega] at y
        exact y
set_option maxHeartbeats 4000000 in
set_option maxRecDepth 100000 in
theorem wk_scope {G : mG} {l : Launch} (d : Nat) {h : mH} {r : Nat} {b z : Int} {f : Nat → Int} {c : Nat → Int} {C : Nat → Nat → Int} {nm : Nat → Int64} {g : Nat → Option Nat} (hR : isR h r b z f c C nm g) (hz : 0 < z ∧ z ≤ 160) {k : Nat} (hk : k < 1000000) {o : Option Value} {u : Nat} (hu : u < 60) (htop : f (z.toNat - 1) = 100 + (u : Int)) {R : mH → Prop} {Q : Option Value → mH → Prop} (P : RUNM G l (d + 1) mX3_goOnShutting [.ref r, .int (J (u : Int))] h (fun v h' => v = none ∧ R h')) (K : ∀ h' o', R h' → RUN G l (d + 2) mX3_work 2 [some (.ref r), some (.int (J ((k + 1 : Nat) : Int))), o'] [] h' Q) : RUN G l (d + 2) mX3_work 2 [some (.ref r), some (.int (J (k : Int))), o] [] h Q := by
  refine r_iload_n (pc := 2) dX3_work_2 rfl ?_
  refine rj_ldc 1000000 (pc := 3) dX3_work_3 oX3_87 (by decide +kernel) ?_
  refine rj_icmp_ge (pc := 5) (tgt := 82) dX3_work_5 (by decide) (by first | exact b01_r | exact bz_r | omega | (constructor <;> omega) | apply_assumption | (apply atF_r; assumption) | fail "no range") (by first | exact b01_r | exact bz_r | omega | (constructor <;> omega) | apply_assumption | (apply atF_r; assumption) | fail "no range") (fun c_5 => ?_) (fun c_5 => ?_)
  · exfalso; omega
  · refine r_aload_n (pc := 8) dX3_work_8 rfl (by first | rfl | exact isRefV_rf _) ?_
    refine r_getf (pc := 9) dX3_work_9 fX3_23 (by first | assumption | exact isI.gx (by assumption) | exact isI.gc (by assumption) | exact isW.gx (by assumption) | exact isW.gF (by assumption) | exact isW.gT (by assumption) (by omega) | exact isW.gS (by assumption) (by omega) | exact isW.gK (by assumption) (by omega) | exact isW.g1 (by assumption) | exact isW.g2 (by assumption) | exact isW.g3 (by assumption) | exact isI.gx (isW.i0 (by assumption)) | exact isI.gc (isW.i0 (by assumption)) | exact isI.gx (isW.i1 (by assumption)) | exact isI.gc (isW.i1 (by assumption)) | exact isI.gx (isW.i2 (by assumption)) | exact isI.gc (isW.i2 (by assumption)) | exact isI.gx (isW.i3 (by assumption)) | exact isI.gc (isW.i3 (by assumption)) | exact isI.gx (isW.i4 (by assumption)) | exact isI.gc (isW.i4 (by assumption)) | exact isI.gx (isW.i5 (by assumption)) | exact isI.gc (isW.i5 (by assumption)) | exact isR.gx (by assumption) | exact isRd.gx (by assumption) | exact isSp.gx (by assumption) | exact isI.gx (isR.i (by assumption)) | exact isI.gx (isRd.i (by assumption)) | exact isI.gc (isRd.i (by assumption)) | exact isI.gx (isSp.i (by assumption)) | exact isW.gx (isR.w (by assumption)) | exact isW.gF (isR.w (by assumption)) | fail "no such object") (by rfl) ?_
    refine r_getf (pc := 12) dX3_work_12 fX3_88 (by first | assumption | exact isI.gx (by assumption) | exact isI.gc (by assumption) | exact isW.gx (by assumption) | exact isW.gF (by assumption) | exact isW.gT (by assumption) (by omega) | exact isW.gS (by assumption) (by omega) | exact isW.gK (by assumption) (by omega) | exact isW.g1 (by assumption) | exact isW.g2 (by assumption) | exact isW.g3 (by assumption) | exact isI.gx (isW.i0 (by assumption)) | exact isI.gc (isW.i0 (by assumption)) | exact isI.gx (isW.i1 (by assumption)) | exact isI.gc (isW.i1 (by assumption)) | exact isI.gx (isW.i2 (by assumption)) | exact isI.gc (isW.i2 (by assumption)) | exact isI.gx (isW.i3 (by assumption)) | exact isI.gc (isW.i3 (by assumption)) | exact isI.gx (isW.i4 (by assumption)) | exact isI.gc (isW.i4 (by assumption)) | exact isI.gx (isW.i5 (by assumption)) | exact isI.gc (isW.i5 (by assumption)) | exact isR.gx (by assumption) | exact isRd.gx (by assumption) | exact isSp.gx (by assumption) | exact isI.gx (isR.i (by assumption)) | exact isI.gx (isRd.i (by assumption)) | exact isI.gc (isRd.i (by assumption)) | exact isI.gx (isSp.i (by assumption)) | exact isW.gx (isR.w (by assumption)) | exact isW.gF (isR.w (by assumption)) | fail "no such object") (by rfl) ?_
    refine rj_if_le (pc := 15) (tgt := 82) dX3_work_15 (by decide) (by first | exact b01_r | exact bz_r | omega | (constructor <;> omega) | apply_assumption | (apply atF_r; assumption) | fail "no range") (fun c_15 => ?_) (fun c_15 => ?_)
    · exfalso; omega
    · refine r_aload_n (pc := 18) dX3_work_18 rfl (by first | rfl | exact isRefV_rf _) ?_
      refine r_getf (pc := 19) dX3_work_19 fX3_23 (by first | assumption | exact isI.gx (by assumption) | exact isI.gc (by assumption) | exact isW.gx (by assumption) | exact isW.gF (by assumption) | exact isW.gT (by assumption) (by omega) | exact isW.gS (by assumption) (by omega) | exact isW.gK (by assumption) (by omega) | exact isW.g1 (by assumption) | exact isW.g2 (by assumption) | exact isW.g3 (by assumption) | exact isI.gx (isW.i0 (by assumption)) | exact isI.gc (isW.i0 (by assumption)) | exact isI.gx (isW.i1 (by assumption)) | exact isI.gc (isW.i1 (by assumption)) | exact isI.gx (isW.i2 (by assumption)) | exact isI.gc (isW.i2 (by assumption)) | exact isI.gx (isW.i3 (by assumption)) | exact isI.gc (isW.i3 (by assumption)) | exact isI.gx (isW.i4 (by assumption)) | exact isI.gc (isW.i4 (by assumption)) | exact isI.gx (isW.i5 (by assumption)) | exact isI.gc (isW.i5 (by assumption)) | exact isR.gx (by assumption) | exact isRd.gx (by assumption) | exact isSp.gx (by assumption) | exact isI.gx (isR.i (by assumption)) | exact isI.gx (isRd.i (by assumption)) | exact isI.gc (isRd.i (by assumption)) | exact isI.gx (isSp.i (by assumption)) | exact isW.gx (isR.w (by assumption)) | exact isW.gF (isR.w (by assumption)) | fail "no such object") (by rfl) ?_
      refine r_aload_n (pc := 22) dX3_work_22 rfl (by first | rfl | exact isRefV_rf _) ?_
      refine r_getf (pc := 23) dX3_work_23 fX3_23 (by first | assumption | exact isI.gx (by assumption) | exact isI.gc (by assumption) | exact isW.gx (by assumption) | exact isW.gF (by assumption) | exact isW.gT (by assumption) (by omega) | exact isW.gS (by assumption) (by omega) | exact isW.gK (by assumption) (by omega) | exact isW.g1 (by assumption) | exact isW.g2 (by assumption) | exact isW.g3 (by assumption) | exact isI.gx (isW.i0 (by assumption)) | exact isI.gc (isW.i0 (by assumption)) | exact isI.gx (isW.i1 (by assumption)) | exact isI.gc (isW.i1 (by assumption)) | exact isI.gx (isW.i2 (by assumption)) | exact isI.gc (isW.i2 (by assumption)) | exact isI.gx (isW.i3 (by assumption)) | exact isI.gc (isW.i3 (by assumption)) | exact isI.gx (isW.i4 (by assumption)) | exact isI.gc (isW.i4 (by assumption)) | exact isI.gx (isW.i5 (by assumption)) | exact isI.gc (isW.i5 (by assumption)) | exact isR.gx (by assumption) | exact isRd.gx (by assumption) | exact isSp.gx (by assumption) | exact isI.gx (isR.i (by assumption)) | exact isI.gx (isRd.i (by assumption)) | exact isI.gc (isRd.i (by assumption)) | exact isI.gx (isSp.i (by assumption)) | exact isW.gx (isR.w (by assumption)) | exact isW.gF (isR.w (by assumption)) | fail "no such object") (by rfl) ?_
      refine r_getf (pc := 26) dX3_work_26 fX3_88 (by first | assumption | exact isI.gx (by assumption) | exact isI.gc (by assumption) | exact isW.gx (by assumption) | exact isW.gF (by assumption) | exact isW.gT (by assumption) (by omega) | exact isW.gS (by assumption) (by omega) | exact isW.gK (by assumption) (by omega) | exact isW.g1 (by assumption) | exact isW.g2 (by assumption) | exact isW.g3 (by assumption) | exact isI.gx (isW.i0 (by assumption)) | exact isI.gc (isW.i0 (by assumption)) | exact isI.gx (isW.i1 (by assumption)) | exact isI.gc (isW.i1 (by assumption)) | exact isI.gx (isW.i2 (by assumption)) | exact isI.gc (isW.i2 (by assumption)) | exact isI.gx (isW.i3 (by assumption)) | exact isI.gc (isW.i3 (by assumption)) | exact isI.gx (isW.i4 (by assumption)) | exact isI.gc (isW.i4 (by assumption)) | exact isI.gx (isW.i5 (by assumption)) | exact isI.gc (isW.i5 (by assumption)) | exact isR.gx (by assumption) | exact isRd.gx (by assumption) | exact isSp.gx (by assumption) | exact isI.gx (isR.i (by assumption)) | exact isI.gx (isRd.i (by assumption)) | exact isI.gc (isRd.i (by assumption)) | exact isI.gx (isSp.i (by assumption)) | exact isW.gx (isR.w (by assumption)) | exact isW.gF (isR.w (by assumption)) | fail "no such object") (by rfl) ?_
      refine rj_iconst (pc := 29) dX3_work_29 ?_
      refine rj_isub (pc := 30) dX3_work_30 ?_
      refine r_callV1 (pc := 31) dX3_work_31 qX1_at kX3_91 vX1_at (by first | assumption | exact isI.gx (by assumption) | exact isI.gc (by assumption) | exact isW.gx (by assumption) | exact isW.gF (by assumption) | exact isW.gT (by assumption) (by omega) | exact isW.gS (by assumption) (by omega) | exact isW.gK (by assumption) (by omega) | exact isW.g1 (by assumption) | exact isW.g2 (by assumption) | exact isW.g3 (by assumption) | exact isI.gx (isW.i0 (by assumption)) | exact isI.gc (isW.i0 (by assumption)) | exact isI.gx (isW.i1 (by assumption)) | exact isI.gc (isW.i1 (by assumption)) | exact isI.gx (isW.i2 (by assumption)) | exact isI.gc (isW.i2 (by assumption)) | exact isI.gx (isW.i3 (by assumption)) | exact isI.gc (isW.i3 (by assumption)) | exact isI.gx (isW.i4 (by assumption)) | exact isI.gc (isW.i4 (by assumption)) | exact isI.gx (isW.i5 (by assumption)) | exact isI.gc (isW.i5 (by assumption)) | exact isR.gx (by assumption) | exact isRd.gx (by assumption) | exact isSp.gx (by assumption) | exact isI.gx (isR.i (by assumption)) | exact isI.gx (isRd.i (by assumption)) | exact isI.gc (isRd.i (by assumption)) | exact isI.gx (isSp.i (by assumption)) | exact isW.gx (isR.w (by assumption)) | exact isW.gF (isR.w (by assumption)) | fail "no such object") rfl rfl (Nat.le_of_ble_eq_true rfl) (ci_at _ hR.i (by decide) ⟨by omega, by omega⟩ (i := z - 1) ⟨by omega, by omega⟩) (fun v_31 h_31 q_31 => ?_)
      obtain ⟨rfl, rfl⟩ := q_31
      rw [show atF 160 z f (z - 1) = 100 + (u : Int) by unfold atF; rw [if_pos ⟨by omega, by omega, by omega⟩, show (z - 1).toNat = z.toNat - 1 by omega]; exact htop]
      refine r_istore_n (pc := 34) dX3_work_34 (Nat.le_of_ble_eq_true rfl) ?_
      dsimp only [lsSt, List.set, mLs, mEnt]
      refine r_iload_n (pc := 35) dX3_work_35 rfl ?_
      refine rj_sipush (pc := 36) dX3_work_36 (by decide +kernel) ?_
      refine rj_icmp_lt (pc := 39) (tgt := 54) dX3_work_39 (by decide) (by first | exact b01_r | exact bz_r | omega | (constructor <;> omega) | apply_assumption | (apply atF_r; assumption) | fail "no range") (by first | exact b01_r | exact bz_r | omega | (constructor <;> omega) | apply_assumption | (apply atF_r; assumption) | fail "no range") (fun c_39 => ?_) (fun c_39 => ?_)
      · refine r_iload_n (pc := 54) dX3_work_54 rfl ?_
        refine rj_bipush (pc := 55) dX3_work_55 (by decide +kernel) ?_
        refine rj_icmp_lt (pc := 57) (tgt := 71) dX3_work_57 (by decide) (by first | exact b01_r | exact bz_r | omega | (constructor <;> omega) | apply_assumption | (apply atF_r; assumption) | fail "no range") (by first | exact b01_r | exact bz_r | omega | (constructor <;> omega) | apply_assumption | (apply atF_r; assumption) | fail "no range") (fun c_57 => ?_) (fun c_57 => ?_)
        · exfalso; omega
        · refine r_aload_n (pc := 60) dX3_work_60 rfl (by first | rfl | exact isRefV_rf _) ?_
          refine r_iload_n (pc := 61) dX3_work_61 rfl ?_
          refine rj_bipush (pc := 62) dX3_work_62 (by decide +kernel) ?_
          refine rj_isub (pc := 64) dX3_work_64 ?_
          rw [show 100 + (u : Int) - 100 = (u : Int) by omega]
          refine r_callV1 (pc := 65) dX3_work_65 qX3_goOnShutting kX3_97 vX3_goOnShutting (by first | assumption | exact isI.gx (by assumption) | exact isI.gc (by assumption) | exact isW.gx (by assumption) | exact isW.gF (by assumption) | exact isW.gT (by assumption) (by omega) | exact isW.gS (by assumption) (by omega) | exact isW.gK (by assumption) (by omega) | exact isW.g1 (by assumption) | exact isW.g2 (by assumption) | exact isW.g3 (by assumption) | exact isI.gx (isW.i0 (by assumption)) | exact isI.gc (isW.i0 (by assumption)) | exact isI.gx (isW.i1 (by assumption)) | exact isI.gc (isW.i1 (by assumption)) | exact isI.gx (isW.i2 (by assumption)) | exact isI.gc (isW.i2 (by assumption)) | exact isI.gx (isW.i3 (by assumption)) | exact isI.gc (isW.i3 (by assumption)) | exact isI.gx (isW.i4 (by assumption)) | exact isI.gc (isW.i4 (by assumption)) | exact isI.gx (isW.i5 (by assumption)) | exact isI.gc (isW.i5 (by assumption)) | exact isR.gx (by assumption) | exact isRd.gx (by assumption) | exact isSp.gx (by assumption) | exact isI.gx (isR.i (by assumption)) | exact isI.gx (isRd.i (by assumption)) | exact isI.gc (isRd.i (by assumption)) | exact isI.gx (isSp.i (by assumption)) | exact isW.gx (isR.w (by assumption)) | exact isW.gF (isR.w (by assumption)) | fail "no such object") rfl rfl (Nat.le_of_ble_eq_true rfl) (P) (fun v_65 h_65 q_65 => ?_)
          obtain ⟨rfl, R_65⟩ := q_65
          refine r_goto (pc := 68) (tgt := 76) dX3_work_68 (by decide) ?_
          refine rj_iinc (pc := 76) dX3_work_76 (Nat.le_of_ble_eq_true rfl) rfl ?_
          dsimp only [lsSt, List.set, mLs, mEnt]
          refine r_goto (pc := 79) (tgt := 2) dX3_work_79 (by decide) ?_
          have y := K _ (some (.int (J (100 + (u : Int))))) R_65
          rw [show ((k + 1 : Nat) : Int) = (k : Int) + 1 by omega] at y
          exact y
      · exfalso; omega
set_option maxHeartbeats 4000000 in
set_option maxRecDepth 100000 in
theorem wk_thing {G : mG} {l : Launch} (d : Nat) {h : mH} {r : Nat} {b z : Int} {f : Nat → Int} {c : Nat → Int} {C : Nat → Nat → Int} {nm : Nat → Int64} {g : Nat → Option Nat} (hR : isR h r b z f c C nm g) (hz : 0 < z ∧ z ≤ 160) {k : Nat} (hk : k < 1000000) {o : Option Value} {t : Nat} (ht : t < 90) (htop : f (z.toNat - 1) = (t : Int)) {R : mH → Prop} {Q : Option Value → mH → Prop} (P : RUNM G l (d + 1) mX3_goOnClosing [.ref r, .int (J (t : Int))] h (fun v h' => v = none ∧ R h')) (K : ∀ h' o', R h' → RUN G l (d + 2) mX3_work 2 [some (.ref r), some (.int (J ((k + 1 : Nat) : Int))), o'] [] h' Q) : RUN G l (d + 2) mX3_work 2 [some (.ref r), some (.int (J (k : Int))), o] [] h Q := by
  refine r_iload_n (pc := 2) dX3_work_2 rfl ?_
  refine rj_ldc 1000000 (pc := 3) dX3_work_3 oX3_87 (by decide +kernel) ?_
  refine rj_icmp_ge (pc := 5) (tgt := 82) dX3_work_5 (by decide) (by first | exact b01_r | exact bz_r | omega | (constructor <;> omega) | apply_assumption | (apply atF_r; assumption) | fail "no range") (by first | exact b01_r | exact bz_r | omega | (constructor <;> omega) | apply_assumption | (apply atF_r; assumption) | fail "no range") (fun c_5 => ?_) (fun c_5 => ?_)
  · exfalso; omega
  · refine r_aload_n (pc := 8) dX3_work_8 rfl (by first | rfl | exact isRefV_rf _) ?_
    refine r_getf (pc := 9) dX3_work_9 fX3_23 (by first | assumption | exact isI.gx (by assumption) | exact isI.gc (by assumption) | exact isW.gx (by assumption) | exact isW.gF (by assumption) | exact isW.gT (by assumption) (by omega) | exact isW.gS (by assumption) (by omega) | exact isW.gK (by assumption) (by omega) | exact isW.g1 (by assumption) | exact isW.g2 (by assumption) | exact isW.g3 (by assumption) | exact isI.gx (isW.i0 (by assumption)) | exact isI.gc (isW.i0 (by assumption)) | exact isI.gx (isW.i1 (by assumption)) | exact isI.gc (isW.i1 (by assumption)) | exact isI.gx (isW.i2 (by assumption)) | exact isI.gc (isW.i2 (by assumption)) | exact isI.gx (isW.i3 (by assumption)) | exact isI.gc (isW.i3 (by assumption)) | exact isI.gx (isW.i4 (by assumption)) | exact isI.gc (isW.i4 (by assumption)) | exact isI.gx (isW.i5 (by assumption)) | exact isI.gc (isW.i5 (by assumption)) | exact isR.gx (by assumption) | exact isRd.gx (by assumption) | exact isSp.gx (by assumption) | exact isI.gx (isR.i (by assumption)) | exact isI.gx (isRd.i (by assumption)) | exact isI.gc (isRd.i (by assumption)) | exact isI.gx (isSp.i (by assumption)) | exact isW.gx (isR.w (by assumption)) | exact isW.gF (isR.w (by assumption)) | fail "no such object") (by rfl) ?_
    refine r_getf (pc := 12) dX3_work_12 fX3_88 (by first | assumption | exact isI.gx (by assumption) | exact isI.gc (by assumption) | exact isW.gx (by assumption) | exact isW.gF (by assumption) | exact isW.gT (by assumption) (by omega) | exact isW.gS (by assumption) (by omega) | exact isW.gK (by assumption) (by omega) | exact isW.g1 (by assumption) | exact isW.g2 (by assumption) | exact isW.g3 (by assumption) | exact isI.gx (isW.i0 (by assumption)) | exact isI.gc (isW.i0 (by assumption)) | exact isI.gx (isW.i1 (by assumption)) | exact isI.gc (isW.i1 (by assumption)) | exact isI.gx (isW.i2 (by assumption)) | exact isI.gc (isW.i2 (by assumption)) | exact isI.gx (isW.i3 (by assumption)) | exact isI.gc (isW.i3 (by assumption)) | exact isI.gx (isW.i4 (by assumption)) | exact isI.gc (isW.i4 (by assumption)) | exact isI.gx (isW.i5 (by assumption)) | exact isI.gc (isW.i5 (by assumption)) | exact isR.gx (by assumption) | exact isRd.gx (by assumption) | exact isSp.gx (by assumption) | exact isI.gx (isR.i (by assumption)) | exact isI.gx (isRd.i (by assumption)) | exact isI.gc (isRd.i (by assumption)) | exact isI.gx (isSp.i (by assumption)) | exact isW.gx (isR.w (by assumption)) | exact isW.gF (isR.w (by assumption)) | fail "no such object") (by rfl) ?_
    refine rj_if_le (pc := 15) (tgt := 82) dX3_work_15 (by decide) (by first | exact b01_r | exact bz_r | omega | (constructor <;> omega) | apply_assumption | (apply atF_r; assumption) | fail "no range") (fun c_15 => ?_) (fun c_15 => ?_)
    · exfalso; omega
    · refine r_aload_n (pc := 18) dX3_work_18 rfl (by first | rfl | exact isRefV_rf _) ?_
      refine r_getf (pc := 19) dX3_work_19 fX3_23 (by first | assumption | exact isI.gx (by assumption) | exact isI.gc (by assumption) | exact isW.gx (by assumption) | exact isW.gF (by assumption) | exact isW.gT (by assumption) (by omega) | exact isW.gS (by assumption) (by omega) | exact isW.gK (by assumption) (by omega) | exact isW.g1 (by assumption) | exact isW.g2 (by assumption) | exact isW.g3 (by assumption) | exact isI.gx (isW.i0 (by assumption)) | exact isI.gc (isW.i0 (by assumption)) | exact isI.gx (isW.i1 (by assumption)) | exact isI.gc (isW.i1 (by assumption)) | exact isI.gx (isW.i2 (by assumption)) | exact isI.gc (isW.i2 (by assumption)) | exact isI.gx (isW.i3 (by assumption)) | exact isI.gc (isW.i3 (by assumption)) | exact isI.gx (isW.i4 (by assumption)) | exact isI.gc (isW.i4 (by assumption)) | exact isI.gx (isW.i5 (by assumption)) | exact isI.gc (isW.i5 (by assumption)) | exact isR.gx (by assumption) | exact isRd.gx (by assumption) | exact isSp.gx (by assumption) | exact isI.gx (isR.i (by assumption)) | exact isI.gx (isRd.i (by assumption)) | exact isI.gc (isRd.i (by assumption)) | exact isI.gx (isSp.i (by assumption)) | exact isW.gx (isR.w (by assumption)) | exact isW.gF (isR.w (by assumption)) | fail "no such object") (by rfl) ?_
      refine r_aload_n (pc := 22) dX3_work_22 rfl (by first | rfl | exact isRefV_rf _) ?_
      refine r_getf (pc := 23) dX3_work_23 fX3_23 (by first | assumption | exact isI.gx (by assumption) | exact isI.gc (by assumption) | exact isW.gx (by assumption) | exact isW.gF (by assumption) | exact isW.gT (by assumption) (by omega) | exact isW.gS (by assumption) (by omega) | exact isW.gK (by assumption) (by omega) | exact isW.g1 (by assumption) | exact isW.g2 (by assumption) | exact isW.g3 (by assumption) | exact isI.gx (isW.i0 (by assumption)) | exact isI.gc (isW.i0 (by assumption)) | exact isI.gx (isW.i1 (by assumption)) | exact isI.gc (isW.i1 (by assumption)) | exact isI.gx (isW.i2 (by assumption)) | exact isI.gc (isW.i2 (by assumption)) | exact isI.gx (isW.i3 (by assumption)) | exact isI.gc (isW.i3 (by assumption)) | exact isI.gx (isW.i4 (by assumption)) | exact isI.gc (isW.i4 (by assumption)) | exact isI.gx (isW.i5 (by assumption)) | exact isI.gc (isW.i5 (by assumption)) | exact isR.gx (by assumption) | exact isRd.gx (by assumption) | exact isSp.gx (by assumption) | exact isI.gx (isR.i (by assumption)) | exact isI.gx (isRd.i (by assumption)) | exact isI.gc (isRd.i (by assumption)) | exact isI.gx (isSp.i (by assumption)) | exact isW.gx (isR.w (by assumption)) | exact isW.gF (isR.w (by assumption)) | fail "no such object") (by rfl) ?_
      refine r_getf (pc := 26) dX3_work_26 fX3_88 (by first | assumption | exact isI.gx (by assumption) | exact isI.gc (by assumption) | exact isW.gx (by assumption) | exact isW.gF (by assumption) | exact isW.gT (by assumption) (by omega) | exact isW.gS (by assumption) (by omega) | exact isW.gK (by assumption) (by omega) | exact isW.g1 (by assumption) | exact isW.g2 (by assumption) | exact isW.g3 (by assumption) | exact isI.gx (isW.i0 (by assumption)) | exact isI.gc (isW.i0 (by assumption)) | exact isI.gx (isW.i1 (by assumption)) | exact isI.gc (isW.i1 (by assumption)) | exact isI.gx (isW.i2 (by assumption)) | exact isI.gc (isW.i2 (by assumption)) | exact isI.gx (isW.i3 (by assumption)) | exact isI.gc (isW.i3 (by assumption)) | exact isI.gx (isW.i4 (by assumption)) | exact isI.gc (isW.i4 (by assumption)) | exact isI.gx (isW.i5 (by assumption)) | exact isI.gc (isW.i5 (by assumption)) | exact isR.gx (by assumption) | exact isRd.gx (by assumption) | exact isSp.gx (by assumption) | exact isI.gx (isR.i (by assumption)) | exact isI.gx (isRd.i (by assumption)) | exact isI.gc (isRd.i (by assumption)) | exact isI.gx (isSp.i (by assumption)) | exact isW.gx (isR.w (by assumption)) | exact isW.gF (isR.w (by assumption)) | fail "no such object") (by rfl) ?_
      refine rj_iconst (pc := 29) dX3_work_29 ?_
      refine rj_isub (pc := 30) dX3_work_30 ?_
      refine r_callV1 (pc := 31) dX3_work_31 qX1_at kX3_91 vX1_at (by first | assumption | exact isI.gx (by assumption) | exact isI.gc (by assumption) | exact isW.gx (by assumption) | exact isW.gF (by assumption) | exact isW.gT (by assumption) (by omega) | exact isW.gS (by assumption) (by omega) | exact isW.gK (by assumption) (by omega) | exact isW.g1 (by assumption) | exact isW.g2 (by assumption) | exact isW.g3 (by assumption) | exact isI.gx (isW.i0 (by assumption)) | exact isI.gc (isW.i0 (by assumption)) | exact isI.gx (isW.i1 (by assumption)) | exact isI.gc (isW.i1 (by assumption)) | exact isI.gx (isW.i2 (by assumption)) | exact isI.gc (isW.i2 (by assumption)) | exact isI.gx (isW.i3 (by assumption)) | exact isI.gc (isW.i3 (by assumption)) | exact isI.gx (isW.i4 (by assumption)) | exact isI.gc (isW.i4 (by assumption)) | exact isI.gx (isW.i5 (by assumption)) | exact isI.gc (isW.i5 (by assumption)) | exact isR.gx (by assumption) | exact isRd.gx (by assumption) | exact isSp.gx (by assumption) | exact isI.gx (isR.i (by assumption)) | exact isI.gx (isRd.i (by assumption)) | exact isI.gc (isRd.i (by assumption)) | exact isI.gx (isSp.i (by assumption)) | exact isW.gx (isR.w (by assumption)) | exact isW.gF (isR.w (by assumption)) | fail "no such object") rfl rfl (Nat.le_of_ble_eq_true rfl) (ci_at _ hR.i (by decide) ⟨by omega, by omega⟩ (i := z - 1) ⟨by omega, by omega⟩) (fun v_31 h_31 q_31 => ?_)
      obtain ⟨rfl, rfl⟩ := q_31
      rw [show atF 160 z f (z - 1) = (t : Int) by unfold atF; rw [if_pos ⟨by omega, by omega, by omega⟩, show (z - 1).toNat = z.toNat - 1 by omega]; exact htop]
      refine r_istore_n (pc := 34) dX3_work_34 (Nat.le_of_ble_eq_true rfl) ?_
      dsimp only [lsSt, List.set, mLs, mEnt]
      refine r_iload_n (pc := 35) dX3_work_35 rfl ?_
      refine rj_sipush (pc := 36) dX3_work_36 (by decide +kernel) ?_
      refine rj_icmp_lt (pc := 39) (tgt := 54) dX3_work_39 (by decide) (by first | exact b01_r | exact bz_r | omega | (constructor <;> omega) | apply_assumption | (apply atF_r; assumption) | fail "no range") (by first | exact b01_r | exact bz_r | omega | (constructor <;> omega) | apply_assumption | (apply atF_r; assumption) | fail "no range") (fun c_39 => ?_) (fun c_39 => ?_)
      · refine r_iload_n (pc := 54) dX3_work_54 rfl ?_
        refine rj_bipush (pc := 55) dX3_work_55 (by decide +kernel) ?_
        refine rj_icmp_lt (pc := 57) (tgt := 71) dX3_work_57 (by decide) (by first | exact b01_r | exact bz_r | omega | (constructor <;> omega) | apply_assumption | (apply atF_r; assumption) | fail "no range") (by first | exact b01_r | exact bz_r | omega | (constructor <;> omega) | apply_assumption | (apply atF_r; assumption) | fail "no range") (fun c_57 => ?_) (fun c_57 => ?_)
        · refine r_aload_n (pc := 71) dX3_work_71 rfl (by first | rfl | exact isRefV_rf _) ?_
          refine r_iload_n (pc := 72) dX3_work_72 rfl ?_
          refine r_callV1 (pc := 73) dX3_work_73 qX3_goOnClosing kX3_100 vX3_goOnClosing (by first | assumption | exact isI.gx (by assumption) | exact isI.gc (by assumption) | exact isW.gx (by assumption) | exact isW.gF (by assumption) | exact isW.gT (by assumption) (by omega) | exact isW.gS (by assumption) (by omega) | exact isW.gK (by assumption) (by omega) | exact isW.g1 (by assumption) | exact isW.g2 (by assumption) | exact isW.g3 (by assumption) | exact isI.gx (isW.i0 (by assumption)) | exact isI.gc (isW.i0 (by assumption)) | exact isI.gx (isW.i1 (by assumption)) | exact isI.gc (isW.i1 (by assumption)) | exact isI.gx (isW.i2 (by assumption)) | exact isI.gc (isW.i2 (by assumption)) | exact isI.gx (isW.i3 (by assumption)) | exact isI.gc (isW.i3 (by assumption)) | exact isI.gx (isW.i4 (by assumption)) | exact isI.gc (isW.i4 (by assumption)) | exact isI.gx (isW.i5 (by assumption)) | exact isI.gc (isW.i5 (by assumption)) | exact isR.gx (by assumption) | exact isRd.gx (by assumption) | exact isSp.gx (by assumption) | exact isI.gx (isR.i (by assumption)) | exact isI.gx (isRd.i (by assumption)) | exact isI.gc (isRd.i (by assumption)) | exact isI.gx (isSp.i (by assumption)) | exact isW.gx (isR.w (by assumption)) | exact isW.gF (isR.w (by assumption)) | fail "no such object") rfl rfl (Nat.le_of_ble_eq_true rfl) (P) (fun v_73 h_73 q_73 => ?_)
          obtain ⟨rfl, R_73⟩ := q_73
          refine rj_iinc (pc := 76) dX3_work_76 (Nat.le_of_ble_eq_true rfl) rfl ?_
          dsimp only [lsSt, List.set, mLs, mEnt]
          refine r_goto (pc := 79) (tgt := 2) dX3_work_79 (by decide) ?_
          have y := K _ (some (.int (J ((t : Int))))) R_73
          rw [show ((k + 1 : Nat) : Int) = (k : Int) + 1 by omega] at y
          exact y
        · exfalso; omega
      · exfalso; omega
end mg_9g
section mg_9h
/-! ===== the class: what ends in a call, turns: given what work does ===== -/
noncomputable def WK (G : mG) (l : Launch) (D : Nat) (r : Nat) (h : mH) (R : mH → Prop) : Prop := RUNM G l D mX3_work [.ref r] h (fun v h' => v = none ∧ R h')
theorem WK.of {G : mG} {l : Launch} {D r : Nat} {h : mH} {R : mH → Prop} (k : RUN G l D mX3_work 2 [some (.ref r), some (.int (J 0)), none] [] h (fun v h' => v = none ∧ R h')) : WK G l D r h R := by
  unfold WK
  refine RUNM.of (by decide +kernel) (Nat.le_of_ble_eq_true rfl) ?_
  refine rj_iconst (pc := 0) dX3_work_0 ?_
  refine r_istore_n (pc := 1) dX3_work_1 (Nat.le_of_ble_eq_true rfl) ?_
  dsimp only [lsSt, List.set, mLs, mEnt]
  exact k
end mg_9h
section mg_9i
/-! ===== the class: turns, given what begins them and what work does ===== -/
def isO3 (h : mH) (r : Nat) : Prop := ∃ fs, hGet h r = some (.inl (3, fs))
theorem isR.o3 {h : mH} {r : Nat} {b z : Int} {f c : Nat → Int} {C : Nat → Nat → Int} {nm : Nat → Int64} {g : Nat → Option Nat} (k : isR h r b z f c C nm g) : isO3 h r := ⟨_, k.gx⟩
set_option maxHeartbeats 4000000 in
set_option maxRecDepth 100000 in
theorem cr_tickOnce {G : mG} {l : Launch} (d : Nat) {h : mH} {r : Nat} {n : Int} (ho : isO3 h r) {R1 R2 : mH → Prop} (hB : RUNM G l d mX3_beginTurn [.ref r] h (fun v h' => v = some (.int (J n)) ∧ R1 h')) (h1 : ∀ h', R1 h' → isO3 h' r) (hK : ∀ h', R1 h' → WK G l d r h' R2) : RUNM G l (d + 1) mX3_tickOnce [.ref r] h (fun v h' => v = some (.int (J n)) ∧ R2 h') := by
  refine RUNM.of (by decide +kernel) (Nat.le_of_ble_eq_true rfl) ?_
  obtain ⟨fs, gx⟩ := ho
  refine r_aload_n (pc := 0) dX3_tickOnce_0 rfl (by first | rfl | exact isRefV_rf _) ?_
  refine r_callV0 (pc := 1) dX3_tickOnce_1 qX3_beginTurn kX3_50 vX3_beginTurn (by first | assumption | exact isI.gx (by assumption) | exact isI.gc (by assumption) | exact isW.gx (by assumption) | exact isW.gF (by assumption) | exact isW.gT (by assumption) (by omega) | exact isW.gS (by assumption) (by omega) | exact isW.gK (by assumption) (by omega) | exact isW.g1 (by assumption) | exact isW.g2 (by assumption) | exact isW.g3 (by assumption) | exact isI.gx (isW.i0 (by assumption)) | exact isI.gc (isW.i0 (by assumption)) | exact isI.gx (isW.i1 (by assumption)) | exact isI.gc (isW.i1 (by assumption)) | exact isI.gx (isW.i2 (by assumption)) | exact isI.gc (isW.i2 (by assumption)) | exact isI.gx (isW.i3 (by assumption)) | exact isI.gc (isW.i3 (by assumption)) | exact isI.gx (isW.i4 (by assumption)) | exact isI.gc (isW.i4 (by assumption)) | exact isI.gx (isW.i5 (by assumption)) | exact isI.gc (isW.i5 (by assumption)) | exact isR.gx (by assumption) | exact isRd.gx (by assumption) | exact isSp.gx (by assumption) | exact isI.gx (isR.i (by assumption)) | exact isI.gx (isRd.i (by assumption)) | exact isI.gc (isRd.i (by assumption)) | exact isI.gx (isSp.i (by assumption)) | exact isW.gx (isR.w (by assumption)) | exact isW.gF (isR.w (by assumption)) | fail "no such object") rfl rfl (Nat.le_of_ble_eq_true rfl) (hB) (fun v_1 h_1 q_1 => ?_)
  obtain ⟨rfl, Q_1⟩ := q_1
  obtain ⟨fs1, gx1⟩ := h1 _ Q_1
  have y := hK _ Q_1
  unfold WK at y
  refine r_istore_n (pc := 4) dX3_tickOnce_4 (Nat.le_of_ble_eq_true rfl) ?_
  dsimp only [lsSt, List.set, mLs, mEnt]
  refine r_aload_n (pc := 5) dX3_tickOnce_5 rfl (by first | rfl | exact isRefV_rf _) ?_
  refine r_callV0 (pc := 6) dX3_tickOnce_6 qX3_work kX3_43 vX3_work (by first | assumption | exact isI.gx (by assumption) | exact isI.gc (by assumption) | exact isW.gx (by assumption) | exact isW.gF (by assumption) | exact isW.gT (by assumption) (by omega) | exact isW.gS (by assumption) (by omega) | exact isW.gK (by assumption) (by omega) | exact isW.g1 (by assumption) | exact isW.g2 (by assumption) | exact isW.g3 (by assumption) | exact isI.gx (isW.i0 (by assumption)) | exact isI.gc (isW.i0 (by assumption)) | exact isI.gx (isW.i1 (by assumption)) | exact isI.gc (isW.i1 (by assumption)) | exact isI.gx (isW.i2 (by assumption)) | exact isI.gc (isW.i2 (by assumption)) | exact isI.gx (isW.i3 (by assumption)) | exact isI.gc (isW.i3 (by assumption)) | exact isI.gx (isW.i4 (by assumption)) | exact isI.gc (isW.i4 (by assumption)) | exact isI.gx (isW.i5 (by assumption)) | exact isI.gc (isW.i5 (by assumption)) | exact isR.gx (by assumption) | exact isRd.gx (by assumption) | exact isSp.gx (by assumption) | exact isI.gx (isR.i (by assumption)) | exact isI.gx (isRd.i (by assumption)) | exact isI.gc (isRd.i (by assumption)) | exact isI.gx (isSp.i (by assumption)) | exact isW.gx (isR.w (by assumption)) | exact isW.gF (isR.w (by assumption)) | fail "no such object") rfl rfl (Nat.le_of_ble_eq_true rfl) (y) (fun v_6 h_6 q_6 => ?_)
  obtain ⟨rfl, Q_6⟩ := q_6
  refine r_iload_n (pc := 9) dX3_tickOnce_9 rfl ?_
  refine r_ireturn (pc := 10) .int dX3_tickOnce_10 rfl (by first | rfl | assumption) ?_
  exact ⟨rfl, Q_6⟩
set_option maxHeartbeats 4000000 in
set_option maxRecDepth 100000 in
theorem L_tickUpTo {G : mG} {l : Launch} (d : Nat) {r : Nat} {T : Nat → mH → Prop} {N : Nat} {M : Int} (hN : (N : Int) ≤ M ∧ M ≤ 1000) (ho : ∀ k h, T k h → isO3 h r) (step : ∀ k h, k < N → T k h → ∃ n : Int, ∃ R1 : mH → Prop, InR n ∧ 0 ≤ n ∧ RUNM G l d mX3_beginTurn [.ref r] h (fun v h' => v = some (.int (J n)) ∧ R1 h') ∧ (∀ h', R1 h' → isO3 h' r) ∧ ∀ h', R1 h' → WK G l d r h' (T (k + 1))) (last : (N : Int) = M ∨ ∀ h, T N h → RUNM G l d mX3_beginTurn [.ref r] h (fun v h' => v = some (.int (J (-5))) ∧ h' = h)) : ∀ (j k : Nat) (h : mH), k + j = N → T k h → RUN G l (d + 1) mX3_tickUpTo 2 [some (.ref r), some (.int (J M)), some (.int (J (k : Int)))] [] h (fun v h' => v = some (.int (J (N : Int))) ∧ T N h') := by
  intro j
  induction j with
  | zero =>
    intro k h hk hT
    obtain rfl : k = N := by omega
    obtain ⟨fs, gx⟩ := ho _ _ hT
    refine r_iload_n (pc := 2) dX3_tickUpTo_2 rfl ?_
    refine r_iload_n (pc := 3) dX3_tickUpTo_3 rfl ?_
    refine rj_icmp_ge (pc := 4) (tgt := 24) dX3_tickUpTo_4 (by decide) (by first | exact b01_r | exact bz_r | omega | (constructor <;> omega) | apply_assumption | (apply atF_r; assumption) | fail "no range") (by first | exact b01_r | exact bz_r | omega | (constructor <;> omega) | apply_assumption | (apply atF_r; assumption) | fail "no range") (fun c_4 => ?_) (fun c_4 => ?_)
    · refine r_iload_n (pc := 24) dX3_tickUpTo_24 rfl ?_
      refine r_ireturn (pc := 25) .int dX3_tickUpTo_25 rfl (by first | rfl | assumption) ?_
      exact ⟨rfl, hT⟩
    · refine r_aload_n (pc := 7) dX3_tickUpTo_7 rfl (by first | rfl | exact isRefV_rf _) ?_
      rcases last with e | B
      · exfalso; omega
      have yB := B _ hT
      refine r_callV0 (pc := 8) dX3_tickUpTo_8 qX3_beginTurn kX3_50 vX3_beginTurn (by first | assumption | exact isI.gx (by assumption) | exact isI.gc (by assumption) | exact isW.gx (by assumption) | exact isW.gF (by assumption) | exact isW.gT (by assumption) (by omega) | exact isW.gS (by assumption) (by omega) | exact isW.gK (by assumption) (by omega) | exact isW.g1 (by assumption) | exact isW.g2 (by assumption) | exact isW.g3 (by assumption) | exact isI.gx (isW.i0 (by assumption)) | exact isI.gc (isW.i0 (by assumption)) | exact isI.gx (isW.i1 (by assumption)) | exact isI.gc (isW.i1 (by assumption)) | exact isI.gx (isW.i2 (by assumption)) | exact isI.gc (isW.i2 (by assumption)) | exact isI.gx (isW.i3 (by assumption)) | exact isI.gc (isW.i3 (by assumption)) | exact isI.gx (isW.i4 (by assumption)) | exact isI.gc (isW.i4 (by assumption)) | exact isI.gx (isW.i5 (by assumption)) | exact isI.gc (isW.i5 (by assumption)) | exact isR.gx (by assumption) | exact isRd.gx (by assumption) | exact isSp.gx (by assumption) | exact isI.gx (isR.i (by assumption)) | exact isI.gx (isRd.i (by assumption)) | exact isI.gc (isRd.i (by assumption)) | exact isI.gx (isSp.i (by assumption)) | exact isW.gx (isR.w (by assumption)) | exact isW.gF (isR.w (by assumption)) | fail "no such object") rfl rfl (Nat.le_of_ble_eq_true rfl) (yB) (fun v_8 h_8 q_8 => ?_)
      obtain ⟨rfl, rfl⟩ := q_8
      refine rj_if_lt (pc := 11) (tgt := 24) dX3_tickUpTo_11 (by decide) (by first | exact b01_r | exact bz_r | omega | (constructor <;> omega) | apply_assumption | (apply atF_r; assumption) | fail "no range") (fun c_11 => ?_) (fun c_11 => ?_)
      · refine r_iload_n (pc := 24) dX3_tickUpTo_24 rfl ?_
        refine r_ireturn (pc := 25) .int dX3_tickUpTo_25 rfl (by first | rfl | assumption) ?_
        exact ⟨rfl, hT⟩
      · exfalso; omega
  | succ j ih =>
    intro k h hk hT
    obtain ⟨fs, gx⟩ := ho _ _ hT
    obtain ⟨n, R1, hn, hn0, B, o1, W⟩ := step k h (by omega) hT
    refine r_iload_n (pc := 2) dX3_tickUpTo_2 rfl ?_
    refine r_iload_n (pc := 3) dX3_tickUpTo_3 rfl ?_
    refine rj_icmp_ge (pc := 4) (tgt := 24) dX3_tickUpTo_4 (by decide) (by first | exact b01_r | exact bz_r | omega | (constructor <;> omega) | apply_assumption | (apply atF_r; assumption) | fail "no range") (by first | exact b01_r | exact bz_r | omega | (constructor <;> omega) | apply_assumption | (apply atF_r; assumption) | fail "no range") (fun c_4 => ?_) (fun c_4 => ?_)
    · exfalso; omega
    · refine r_aload_n (pc := 7) dX3_tickUpTo_7 rfl (by first | rfl | exact isRefV_rf _) ?_
      refine r_callV0 (pc := 8) dX3_tickUpTo_8 qX3_beginTurn kX3_50 vX3_beginTurn (by first | assumption | exact isI.gx (by assumption) | exact isI.gc (by assumption) | exact isW.gx (by assumption) | exact isW.gF (by assumption) | exact isW.gT (by assumption) (by omega) | exact isW.gS (by assumption) (by omega) | exact isW.gK (by assumption) (by omega) | exact isW.g1 (by assumption) | exact isW.g2 (by assumption) | exact isW.g3 (by assumption) | exact isI.gx (isW.i0 (by assumption)) | exact isI.gc (isW.i0 (by assumption)) | exact isI.gx (isW.i1 (by assumption)) | exact isI.gc (isW.i1 (by assumption)) | exact isI.gx (isW.i2 (by assumption)) | exact isI.gc (isW.i2 (by assumption)) | exact isI.gx (isW.i3 (by assumption)) | exact isI.gc (isW.i3 (by assumption)) | exact isI.gx (isW.i4 (by assumption)) | exact isI.gc (isW.i4 (by assumption)) | exact isI.gx (isW.i5 (by assumption)) | exact isI.gc (isW.i5 (by assumption)) | exact isR.gx (by assumption) | exact isRd.gx (by assumption) | exact isSp.gx (by assumption) | exact isI.gx (isR.i (by assumption)) | exact isI.gx (isRd.i (by assumption)) | exact isI.gc (isRd.i (by assumption)) | exact isI.gx (isSp.i (by assumption)) | exact isW.gx (isR.w (by assumption)) | exact isW.gF (isR.w (by assumption)) | fail "no such object") rfl rfl (Nat.le_of_ble_eq_true rfl) (B) (fun v_8 h_8 q_8 => ?_)
      obtain ⟨rfl, Q_8⟩ := q_8
      obtain ⟨fs1, gx1⟩ := o1 _ Q_8
      have y := W _ Q_8
      unfold WK at y
      refine rj_if_lt (pc := 11) (tgt := 24) dX3_tickUpTo_11 (by decide) (by first | exact b01_r | exact bz_r | omega | (constructor <;> omega) | apply_assumption | (apply atF_r; assumption) | fail "no range") (fun c_11 => ?_) (fun c_11 => ?_)
      · exfalso; omega
      · refine r_aload_n (pc := 14) dX3_tickUpTo_14 rfl (by first | rfl | exact isRefV_rf _) ?_
        refine r_callV0 (pc := 15) dX3_tickUpTo_15 qX3_work kX3_43 vX3_work (by first | assumption | exact isI.gx (by assumption) | exact isI.gc (by assumption) | exact isW.gx (by assumption) | exact isW.gF (by assumption) | exact isW.gT (by assumption) (by omega) | exact isW.gS (by assumption) (by omega) | exact isW.gK (by assumption) (by omega) | exact isW.g1 (by assumption) | exact isW.g2 (by assumption) | exact isW.g3 (by assumption) | exact isI.gx (isW.i0 (by assumption)) | exact isI.gc (isW.i0 (by assumption)) | exact isI.gx (isW.i1 (by assumption)) | exact isI.gc (isW.i1 (by assumption)) | exact isI.gx (isW.i2 (by assumption)) | exact isI.gc (isW.i2 (by assumption)) | exact isI.gx (isW.i3 (by assumption)) | exact isI.gc (isW.i3 (by assumption)) | exact isI.gx (isW.i4 (by assumption)) | exact isI.gc (isW.i4 (by assumption)) | exact isI.gx (isW.i5 (by assumption)) | exact isI.gc (isW.i5 (by assumption)) | exact isR.gx (by assumption) | exact isRd.gx (by assumption) | exact isSp.gx (by assumption) | exact isI.gx (isR.i (by assumption)) | exact isI.gx (isRd.i (by assumption)) | exact isI.gc (isRd.i (by assumption)) | exact isI.gx (isSp.i (by assumption)) | exact isW.gx (isR.w (by assumption)) | exact isW.gF (isR.w (by assumption)) | fail "no such object") rfl rfl (Nat.le_of_ble_eq_true rfl) (y) (fun v_15 h_15 q_15 => ?_)
        obtain ⟨rfl, Q_15⟩ := q_15
        refine rj_iinc (pc := 18) dX3_tickUpTo_18 (Nat.le_of_ble_eq_true rfl) rfl ?_
        dsimp only [lsSt, List.set, mLs, mEnt]
        refine r_goto (pc := 21) (tgt := 2) dX3_tickUpTo_21 (by decide) ?_
        have y := ih (k + 1) _ (by omega) Q_15
        rw [show ((k + 1 : Nat) : Int) = (k : Int) + 1 by omega] at y
        exact y
set_option maxHeartbeats 4000000 in
set_option maxRecDepth 100000 in
theorem cr_tickUpTo {G : mG} {l : Launch} (d : Nat) {r : Nat} {T : Nat → mH → Prop} {N : Nat} {M : Int} (hN : (N : Int) ≤ M ∧ M ≤ 1000) (ho : ∀ k h, T k h → isO3 h r) (step : ∀ k h, k < N → T k h → ∃ n : Int, ∃ R1 : mH → Prop, InR n ∧ 0 ≤ n ∧ RUNM G l d mX3_beginTurn [.ref r] h (fun v h' => v = some (.int (J n)) ∧ R1 h') ∧ (∀ h', R1 h' → isO3 h' r) ∧ ∀ h', R1 h' → WK G l d r h' (T (k + 1))) (last : (N : Int) = M ∨ ∀ h, T N h → RUNM G l d mX3_beginTurn [.ref r] h (fun v h' => v = some (.int (J (-5))) ∧ h' = h)) {h : mH} (hT : T 0 h) : RUNM G l (d + 1) mX3_tickUpTo [.ref r, .int (J M)] h (fun v h' => v = some (.int (J (N : Int))) ∧ T N h') := by
  refine RUNM.of (by decide +kernel) (Nat.le_of_ble_eq_true rfl) ?_
  refine rj_iconst (pc := 0) dX3_tickUpTo_0 ?_
  refine r_istore_n (pc := 1) dX3_tickUpTo_1 (Nat.le_of_ble_eq_true rfl) ?_
  dsimp only [lsSt, List.set, mLs, mEnt]
  exact L_tickUpTo d hN ho step last N 0 h (by omega) hT
end mg_9i
section mg_9j
/-! ===== the class: the plan of a scope ===== -/
def pcL (c f : Nat → Int) (Z : Nat) (s i : Int) : Nat → Int → Int → Int → Int
  | 0, _, _, many => if i = -1 then many else -1
  | n + 1, wi, p, many =>
    if p < 0 then (if wi = s then (if i = -1 then many else -1) else pcL c f Z s i n (ownF c (100 + wi)) (peL f (100 + wi) Z 0 - 1) many)
    else if ¬ ownF c (f p.toNat) = wi then pcL c f Z s i n wi (p - 1) many
    else if 100 ≤ f p.toNat then pcL c f Z s i n (f p.toNat - 100) ((Z : Int) - 1) many
    else if many = i then f p.toNat else pcL c f Z s i n wi (p - 1) (many + 1)
theorem peL_r {f : Nat → Int} {i : Int} : ∀ n t : Nat, -1 ≤ peL f i n t ∧ peL f i n t < t + n + 1
  | 0, t => by unfold peL; omega
  | n + 1, t => by
    unfold peL
    have y := peL_r (f := f) (i := i) n (t + 1)
    split <;> omega
set_option maxHeartbeats 4000000 in
set_option maxRecDepth 100000 in
theorem L_planned {G : mG} {l : Launch} (d : Nat) {h : mH} {w : Nat} {c : Nat → Int} {C : Nat → Nat → Int} {nm : Nat → Int64} {g : Nat → Option Nat} (hW : isW h w c C nm g) (hc : ∀ q, InR (c q)) {Z : Nat} (hZ : c 10 = (Z : Int)) (hcapZ : Z ≤ 150) (hC : ∀ q, InR (C 2 q)) (hO : oOk c) {s i : Int} (hs : 0 ≤ s ∧ s ≤ 59) (hi : InR i) : ∀ (n k : Nat) (wi p mn : Int), k + n = 1000000 → (-5 ≤ wi ∧ wi ≤ 2147483547) → (-2 ≤ p ∧ p < Z) → (0 ≤ mn ∧ mn ≤ k) → RUN G l (d + 3) mX9_planned 19 [some (.ref w), some (.int (J s)), some (.int (J i)), some (.int (J mn)), some (.int (J wi)), some (.int (J p)), some (.int (J (k : Int)))] [] h (fun v h' => v = some (.int (J (pcL c (C 2) Z s i n wi p mn))) ∧ h' = h) := by
  intro n
  induction n with
  | zero =>
    intro k wi p mn hk hwi hp hmn
    refine r_iload (pc := 19) dX9_planned_19 rfl ?_
    refine rj_ldc 1000000 (pc := 21) dX9_planned_21 oX9_160 (by decide +kernel) ?_
    refine rj_icmp_ge (pc := 23) (tgt := 160) dX9_planned_23 (by decide) (by first | exact b01_r | exact bz_r | omega | (constructor <;> omega) | apply_assumption | (apply atF_r; assumption) | fail "no range") (by first | exact b01_r | exact bz_r | omega | (constructor <;> omega) | apply_assumption | (apply atF_r; assumption) | fail "no range") (fun c_23 => ?_) (fun c_23 => ?_)
    · refine r_iload_n (pc := 160) dX9_planned_160 rfl ?_
      refine rj_iconst (pc := 161) dX9_planned_161 ?_
      refine rj_icmp_ne (pc := 162) (tgt := 169) dX9_planned_162 (by decide) (by first | exact b01_r | exact bz_r | omega | (constructor <;> omega) | apply_assumption | (apply atF_r; assumption) | fail "no range") (by first | exact b01_r | exact bz_r | omega | (constructor <;> omega) | apply_assumption | (apply atF_r; assumption) | fail "no range") (fun c_162 => ?_) (fun c_162 => ?_)
      · refine rj_iconst (pc := 169) dX9_planned_169 ?_
        refine r_ireturn (pc := 170) .int dX9_planned_170 rfl (by first | rfl | assumption) ?_
        first | exact ⟨by rw [pcL, if_pos (by omega)], rfl⟩ | exact ⟨by rw [pcL, if_neg (by omega)], rfl⟩
      · refine r_iload_n (pc := 165) dX9_planned_165 rfl ?_
        refine r_goto (pc := 166) (tgt := 170) dX9_planned_166 (by decide) ?_
        refine r_ireturn (pc := 170) .int dX9_planned_170 rfl (by first | rfl | assumption) ?_
        first | exact ⟨by rw [pcL, if_pos (by omega)], rfl⟩ | exact ⟨by rw [pcL, if_neg (by omega)], rfl⟩
    · exfalso; omega
  | succ n ih =>
    intro k wi p mn hk hwi hp hmn
    have e1 : ((k + 1 : Nat) : Int) = (k : Int) + 1 := by omega
    refine r_iload (pc := 19) dX9_planned_19 rfl ?_
    refine rj_ldc 1000000 (pc := 21) dX9_planned_21 oX9_160 (by decide +kernel) ?_
    refine rj_icmp_ge (pc := 23) (tgt := 160) dX9_planned_23 (by decide) (by first | exact b01_r | exact bz_r | omega | (constructor <;> omega) | apply_assumption | (apply atF_r; assumption) | fail "no range") (by first | exact b01_r | exact bz_r | omega | (constructor <;> omega) | apply_assumption | (apply atF_r; assumption) | fail "no range") (fun c_23 => ?_) (fun c_23 => ?_)
    · exfalso; omega
    · refine r_iload (pc := 26) dX9_planned_26 rfl ?_
      refine rj_if_ge (pc := 28) (tgt := 67) dX9_planned_28 (by decide) (by first | exact b01_r | exact bz_r | omega | (constructor <;> omega) | apply_assumption | (apply atF_r; assumption) | fail "no range") (fun c_28 => ?_) (fun c_28 => ?_)
      · refine r_aload_n (pc := 67) dX9_planned_67 rfl (by first | rfl | exact isRefV_rf _) ?_
        refine r_aload_n (pc := 68) dX9_planned_68 rfl (by first | rfl | exact isRefV_rf _) ?_
        refine r_getf (pc := 69) dX9_planned_69 fX9_41 (by first | assumption | exact isI.gx (by assumption) | exact isI.gc (by assumption) | exact isW.gx (by assumption) | exact isW.gF (by assumption) | exact isW.gT (by assumption) (by omega) | exact isW.gS (by assumption) (by omega) | exact isW.gK (by assumption) (by omega) | exact isW.g1 (by assumption) | exact isW.g2 (by assumption) | exact isW.g3 (by assumption) | exact isI.gx (isW.i0 (by assumption)) | exact isI.gc (isW.i0 (by assumption)) | exact isI.gx (isW.i1 (by assumption)) | exact isI.gc (isW.i1 (by assumption)) | exact isI.gx (isW.i2 (by assumption)) | exact isI.gc (isW.i2 (by assumption)) | exact isI.gx (isW.i3 (by assumption)) | exact isI.gc (isW.i3 (by assumption)) | exact isI.gx (isW.i4 (by assumption)) | exact isI.gc (isW.i4 (by assumption)) | exact isI.gx (isW.i5 (by assumption)) | exact isI.gc (isW.i5 (by assumption)) | exact isR.gx (by assumption) | exact isRd.gx (by assumption) | exact isSp.gx (by assumption) | exact isI.gx (isR.i (by assumption)) | exact isI.gx (isRd.i (by assumption)) | exact isI.gc (isRd.i (by assumption)) | exact isI.gx (isSp.i (by assumption)) | exact isW.gx (isR.w (by assumption)) | exact isW.gF (isR.w (by assumption)) | fail "no such object") (by rfl) ?_
        refine r_iload (pc := 72) dX9_planned_72 rfl ?_
        obtain ⟨P, rfl⟩ : ∃ q : Nat, p = (q : Int) := ⟨p.toNat, by omega⟩
        have rP := hC P
        refine r_callV1 (pc := 74) dX9_planned_74 qX1_at kX9_147 vX1_at (by first | assumption | exact isI.gx (by assumption) | exact isI.gc (by assumption) | exact isW.gx (by assumption) | exact isW.gF (by assumption) | exact isW.gT (by assumption) (by omega) | exact isW.gS (by assumption) (by omega) | exact isW.gK (by assumption) (by omega) | exact isW.g1 (by assumption) | exact isW.g2 (by assumption) | exact isW.g3 (by assumption) | exact isI.gx (isW.i0 (by assumption)) | exact isI.gc (isW.i0 (by assumption)) | exact isI.gx (isW.i1 (by assumption)) | exact isI.gc (isW.i1 (by assumption)) | exact isI.gx (isW.i2 (by assumption)) | exact isI.gc (isW.i2 (by assumption)) | exact isI.gx (isW.i3 (by assumption)) | exact isI.gc (isW.i3 (by assumption)) | exact isI.gx (isW.i4 (by assumption)) | exact isI.gc (isW.i4 (by assumption)) | exact isI.gx (isW.i5 (by assumption)) | exact isI.gc (isW.i5 (by assumption)) | exact isR.gx (by assumption) | exact isRd.gx (by assumption) | exact isSp.gx (by assumption) | exact isI.gx (isR.i (by assumption)) | exact isI.gx (isRd.i (by assumption)) | exact isI.gc (isRd.i (by assumption)) | exact isI.gx (isSp.i (by assumption)) | exact isW.gx (isR.w (by assumption)) | exact isW.gF (isR.w (by assumption)) | fail "no such object") rfl rfl (Nat.le_of_ble_eq_true rfl) (cn_ent _ hW hc hZ hcapZ hC (t := P) (by omega)) (fun v_74 h_74 q_74 => ?_)
        obtain ⟨rfl, rfl⟩ := q_74
        refine r_callV1 (pc := 77) dX9_planned_77 qX9_ownerOf kX9_151 vX9_ownerOf (by first | assumption | exact isI.gx (by assumption) | exact isI.gc (by assumption) | exact isW.gx (by assumption) | exact isW.gF (by assumption) | exact isW.gT (by assumption) (by omega) | exact isW.gS (by assumption) (by omega) | exact isW.gK (by assumption) (by omega) | exact isW.g1 (by assumption) | exact isW.g2 (by assumption) | exact isW.g3 (by assumption) | exact isI.gx (isW.i0 (by assumption)) | exact isI.gc (isW.i0 (by assumption)) | exact isI.gx (isW.i1 (by assumption)) | exact isI.gc (isW.i1 (by assumption)) | exact isI.gx (isW.i2 (by assumption)) | exact isI.gc (isW.i2 (by assumption)) | exact isI.gx (isW.i3 (by assumption)) | exact isI.gc (isW.i3 (by assumption)) | exact isI.gx (isW.i4 (by assumption)) | exact isI.gc (isW.i4 (by assumption)) | exact isI.gx (isW.i5 (by assumption)) | exact isI.gc (isW.i5 (by assumption)) | exact isR.gx (by assumption) | exact isRd.gx (by assumption) | exact isSp.gx (by assumption) | exact isI.gx (isR.i (by assumption)) | exact isI.gx (isRd.i (by assumption)) | exact isI.gc (isRd.i (by assumption)) | exact isI.gx (isSp.i (by assumption)) | exact isW.gx (isR.w (by assumption)) | exact isW.gF (isR.w (by assumption)) | fail "no such object") rfl rfl (Nat.le_of_ble_eq_true rfl) (cw_ownerOf _ hW hc (i := C 2 P) rP) (fun v_77 h_77 q_77 => ?_)
        obtain ⟨rfl, rfl⟩ := q_77
        have ro := hO (C 2 P)
        refine r_iload (pc := 80) dX9_planned_80 rfl ?_
        refine rj_icmp_eq (pc := 82) (tgt := 91) dX9_planned_82 (by decide) (by first | exact b01_r | exact bz_r | omega | (constructor <;> omega) | apply_assumption | (apply atF_r; assumption) | fail "no range") (by first | exact b01_r | exact bz_r | omega | (constructor <;> omega) | apply_assumption | (apply atF_r; assumption) | fail "no range") (fun c_82 => ?_) (fun c_82 => ?_)
        · refine r_aload_n (pc := 91) dX9_planned_91 rfl (by first | rfl | exact isRefV_rf _) ?_
          refine r_getf (pc := 92) dX9_planned_92 fX9_41 (by first | assumption | exact isI.gx (by assumption) | exact isI.gc (by assumption) | exact isW.gx (by assumption) | exact isW.gF (by assumption) | exact isW.gT (by assumption) (by omega) | exact isW.gS (by assumption) (by omega) | exact isW.gK (by assumption) (by omega) | exact isW.g1 (by assumption) | exact isW.g2 (by assumption) | exact isW.g3 (by assumption) | exact isI.gx (isW.i0 (by assumption)) | exact isI.gc (isW.i0 (by assumption)) | exact isI.gx (isW.i1 (by assumption)) | exact isI.gc (isW.i1 (by assumption)) | exact isI.gx (isW.i2 (by assumption)) | exact isI.gc (isW.i2 (by assumption)) | exact isI.gx (isW.i3 (by assumption)) | exact isI.gc (isW.i3 (by assumption)) | exact isI.gx (isW.i4 (by assumption)) | exact isI.gc (isW.i4 (by assumption)) | exact isI.gx (isW.i5 (by assumption)) | exact isI.gc (isW.i5 (by assumption)) | exact isR.gx (by assumption) | exact isRd.gx (by assumption) | exact isSp.gx (by assumption) | exact isI.gx (isR.i (by assumption)) | exact isI.gx (isRd.i (by assumption)) | exact isI.gc (isRd.i (by assumption)) | exact isI.gx (isSp.i (by assumption)) | exact isW.gx (isR.w (by assumption)) | exact isW.gF (isR.w (by assumption)) | fail "no such object") (by rfl) ?_
          refine r_iload (pc := 95) dX9_planned_95 rfl ?_
          refine r_callV1 (pc := 97) dX9_planned_97 qX1_at kX9_147 vX1_at (by first | assumption | exact isI.gx (by assumption) | exact isI.gc (by assumption) | exact isW.gx (by assumption) | exact isW.gF (by assumption) | exact isW.gT (by assumption) (by omega) | exact isW.gS (by assumption) (by omega) | exact isW.gK (by assumption) (by omega) | exact isW.g1 (by assumption) | exact isW.g2 (by assumption) | exact isW.g3 (by assumption) | exact isI.gx (isW.i0 (by assumption)) | exact isI.gc (isW.i0 (by assumption)) | exact isI.gx (isW.i1 (by assumption)) | exact isI.gc (isW.i1 (by assumption)) | exact isI.gx (isW.i2 (by assumption)) | exact isI.gc (isW.i2 (by assumption)) | exact isI.gx (isW.i3 (by assumption)) | exact isI.gc (isW.i3 (by assumption)) | exact isI.gx (isW.i4 (by assumption)) | exact isI.gc (isW.i4 (by assumption)) | exact isI.gx (isW.i5 (by assumption)) | exact isI.gc (isW.i5 (by assumption)) | exact isR.gx (by assumption) | exact isRd.gx (by assumption) | exact isSp.gx (by assumption) | exact isI.gx (isR.i (by assumption)) | exact isI.gx (isRd.i (by assumption)) | exact isI.gc (isRd.i (by assumption)) | exact isI.gx (isSp.i (by assumption)) | exact isW.gx (isR.w (by assumption)) | exact isW.gF (isR.w (by assumption)) | fail "no such object") rfl rfl (Nat.le_of_ble_eq_true rfl) (cn_ent _ hW hc hZ hcapZ hC (t := P) (by omega)) (fun v_97 h_97 q_97 => ?_)
          obtain ⟨rfl, rfl⟩ := q_97
          refine rj_bipush (pc := 100) dX9_planned_100 (by decide +kernel) ?_
          refine rj_icmp_lt (pc := 102) (tgt := 133) dX9_planned_102 (by decide) (by first | exact b01_r | exact bz_r | omega | (constructor <;> omega) | apply_assumption | (apply atF_r; assumption) | fail "no range") (by first | exact b01_r | exact bz_r | omega | (constructor <;> omega) | apply_assumption | (apply atF_r; assumption) | fail "no range") (fun c_102 => ?_) (fun c_102 => ?_)
          · refine r_iload_n (pc := 133) dX9_planned_133 rfl ?_
            refine r_iload_n (pc := 134) dX9_planned_134 rfl ?_
            refine rj_icmp_ne (pc := 135) (tgt := 148) dX9_planned_135 (by decide) (by first | exact b01_r | exact bz_r | omega | (constructor <;> omega) | apply_assumption | (apply atF_r; assumption) | fail "no range") (by first | exact b01_r | exact bz_r | omega | (constructor <;> omega) | apply_assumption | (apply atF_r; assumption) | fail "no range") (fun c_135 => ?_) (fun c_135 => ?_)
            · refine rj_iinc (pc := 148) dX9_planned_148 (Nat.le_of_ble_eq_true rfl) rfl ?_
              dsimp only [lsSt, List.set, mLs, mEnt]
              refine rj_iinc (pc := 151) dX9_planned_151 (Nat.le_of_ble_eq_true rfl) rfl ?_
              dsimp only [lsSt, List.set, mLs, mEnt]
              refine rj_iinc (pc := 154) dX9_planned_154 (Nat.le_of_ble_eq_true rfl) rfl ?_
              dsimp only [lsSt, List.set, mLs, mEnt]
              refine r_goto (pc := 157) (tgt := 19) dX9_planned_157 (by decide) ?_
              have y := ih (k + 1) wi ((P : Int) - 1) (mn + 1) (by omega) (by omega) (by omega) (by omega)
              rw [e1] at y
              rw [pcL, if_neg (by omega), Int.toNat_natCast, if_neg (show ¬ ¬ ownF c (C 2 P) = wi from fun z => z c_82), if_neg (show ¬ 100 ≤ C 2 P by omega), if_neg (by omega)]
              first | exact y | (rw [show (P : Int) - 1 = (P : Int) + -1 by omega] at y; exact y) | (rw [hZ]; exact y) | (rw [← hZ] at y; exact y)
            · refine r_aload_n (pc := 138) dX9_planned_138 rfl (by first | rfl | exact isRefV_rf _) ?_
              refine r_getf (pc := 139) dX9_planned_139 fX9_41 (by first | assumption | exact isI.gx (by assumption) | exact isI.gc (by assumption) | exact isW.gx (by assumption) | exact isW.gF (by assumption) | exact isW.gT (by assumption) (by omega) | exact isW.gS (by assumption) (by omega) | exact isW.gK (by assumption) (by omega) | exact isW.g1 (by assumption) | exact isW.g2 (by assumption) | exact isW.g3 (by assumption) | exact isI.gx (isW.i0 (by assumption)) | exact isI.gc (isW.i0 (by assumption)) | exact isI.gx (isW.i1 (by assumption)) | exact isI.gc (isW.i1 (by assumption)) | exact isI.gx (isW.i2 (by assumption)) | exact isI.gc (isW.i2 (by assumption)) | exact isI.gx (isW.i3 (by assumption)) | exact isI.gc (isW.i3 (by assumption)) | exact isI.gx (isW.i4 (by assumption)) | exact isI.gc (isW.i4 (by assumption)) | exact isI.gx (isW.i5 (by assumption)) | exact isI.gc (isW.i5 (by assumption)) | exact isR.gx (by assumption) | exact isRd.gx (by assumption) | exact isSp.gx (by assumption) | exact isI.gx (isR.i (by assumption)) | exact isI.gx (isRd.i (by assumption)) | exact isI.gc (isRd.i (by assumption)) | exact isI.gx (isSp.i (by assumption)) | exact isW.gx (isR.w (by assumption)) | exact isW.gF (isR.w (by assumption)) | fail "no such object") (by rfl) ?_
              refine r_iload (pc := 142) dX9_planned_142 rfl ?_
              refine r_callV1 (pc := 144) dX9_planned_144 qX1_at kX9_147 vX1_at (by first | assumption | exact isI.gx (by assumption) | exact isI.gc (by assumption) | exact isW.gx (by assumption) | exact isW.gF (by assumption) | exact isW.gT (by assumption) (by omega) | exact isW.gS (by assumption) (by omega) | exact isW.gK (by assumption) (by omega) | exact isW.g1 (by assumption) | exact isW.g2 (by assumption) | exact isW.g3 (by assumption) | exact isI.gx (isW.i0 (by assumption)) | exact isI.gc (isW.i0 (by assumption)) | exact isI.gx (isW.i1 (by assumption)) | exact isI.gc (isW.i1 (by assumption)) | exact isI.gx (isW.i2 (by assumption)) | exact isI.gc (isW.i2 (by assumption)) | exact isI.gx (isW.i3 (by assumption)) | exact isI.gc (isW.i3 (by assumption)) | exact isI.gx (isW.i4 (by assumption)) | exact isI.gc (isW.i4 (by assumption)) | exact isI.gx (isW.i5 (by assumption)) | exact isI.gc (isW.i5 (by assumption)) | exact isR.gx (by assumption) | exact isRd.gx (by assumption) | exact isSp.gx (by assumption) | exact isI.gx (isR.i (by assumption)) | exact isI.gx (isRd.i (by assumption)) | exact isI.gc (isRd.i (by assumption)) | exact isI.gx (isSp.i (by assumption)) | exact isW.gx (isR.w (by assumption)) | exact isW.gF (isR.w (by assumption)) | fail "no such object") rfl rfl (Nat.le_of_ble_eq_true rfl) (cn_ent _ hW hc hZ hcapZ hC (t := P) (by omega)) (fun v_144 h_144 q_144 => ?_)
              obtain ⟨rfl, rfl⟩ := q_144
              refine r_ireturn (pc := 147) .int dX9_planned_147 rfl (by first | rfl | assumption) ?_
              first
              | exact ⟨by rw [pcL, if_pos (by omega), if_pos (by omega), if_pos (by omega)], rfl⟩
              | exact ⟨by rw [pcL, if_pos (by omega), if_pos (by omega), if_neg (by omega)], rfl⟩
              | exact ⟨by rw [pcL, if_neg (by omega), Int.toNat_natCast, if_neg (show ¬ ¬ ownF c (C 2 P) = wi from fun z => z c_82), if_neg (show ¬ 100 ≤ C 2 P by omega), if_pos (by omega)], rfl⟩
          · refine r_aload_n (pc := 105) dX9_planned_105 rfl (by first | rfl | exact isRefV_rf _) ?_
            refine r_getf (pc := 106) dX9_planned_106 fX9_41 (by first | assumption | exact isI.gx (by assumption) | exact isI.gc (by assumption) | exact isW.gx (by assumption) | exact isW.gF (by assumption) | exact isW.gT (by assumption) (by omega) | exact isW.gS (by assumption) (by omega) | exact isW.gK (by assumption) (by omega) | exact isW.g1 (by assumption) | exact isW.g2 (by assumption) | exact isW.g3 (by assumption) | exact isI.gx (isW.i0 (by assumption)) | exact isI.gc (isW.i0 (by assumption)) | exact isI.gx (isW.i1 (by assumption)) | exact isI.gc (isW.i1 (by assumption)) | exact isI.gx (isW.i2 (by assumption)) | exact isI.gc (isW.i2 (by assumption)) | exact isI.gx (isW.i3 (by assumption)) | exact isI.gc (isW.i3 (by assumption)) | exact isI.gx (isW.i4 (by assumption)) | exact isI.gc (isW.i4 (by assumption)) | exact isI.gx (isW.i5 (by assumption)) | exact isI.gc (isW.i5 (by assumption)) | exact isR.gx (by assumption) | exact isRd.gx (by assumption) | exact isSp.gx (by assumption) | exact isI.gx (isR.i (by assumption)) | exact isI.gx (isRd.i (by assumption)) | exact isI.gc (isRd.i (by assumption)) | exact isI.gx (isSp.i (by assumption)) | exact isW.gx (isR.w (by assumption)) | exact isW.gF (isR.w (by assumption)) | fail "no such object") (by rfl) ?_
            refine r_iload (pc := 109) dX9_planned_109 rfl ?_
            refine r_callV1 (pc := 111) dX9_planned_111 qX1_at kX9_147 vX1_at (by first | assumption | exact isI.gx (by assumption) | exact isI.gc (by assumption) | exact isW.gx (by assumption) | exact isW.gF (by assumption) | exact isW.gT (by assumption) (by omega) | exact isW.gS (by assumption) (by omega) | exact isW.gK (by assumption) (by omega) | exact isW.g1 (by assumption) | exact isW.g2 (by assumption) | exact isW.g3 (by assumption) | exact isI.gx (isW.i0 (by assumption)) | exact isI.gc (isW.i0 (by assumption)) | exact isI.gx (isW.i1 (by assumption)) | exact isI.gc (isW.i1 (by assumption)) | exact isI.gx (isW.i2 (by assumption)) | exact isI.gc (isW.i2 (by assumption)) | exact isI.gx (isW.i3 (by assumption)) | exact isI.gc (isW.i3 (by assumption)) | exact isI.gx (isW.i4 (by assumption)) | exact isI.gc (isW.i4 (by assumption)) | exact isI.gx (isW.i5 (by assumption)) | exact isI.gc (isW.i5 (by assumption)) | exact isR.gx (by assumption) | exact isRd.gx (by assumption) | exact isSp.gx (by assumption) | exact isI.gx (isR.i (by assumption)) | exact isI.gx (isRd.i (by assumption)) | exact isI.gc (isRd.i (by assumption)) | exact isI.gx (isSp.i (by assumption)) | exact isW.gx (isR.w (by assumption)) | exact isW.gF (isR.w (by assumption)) | fail "no such object") rfl rfl (Nat.le_of_ble_eq_true rfl) (cn_ent _ hW hc hZ hcapZ hC (t := P) (by omega)) (fun v_111 h_111 q_111 => ?_)
            obtain ⟨rfl, rfl⟩ := q_111
            refine rj_bipush (pc := 114) dX9_planned_114 (by decide +kernel) ?_
            refine rj_isub (pc := 116) dX9_planned_116 ?_
            refine r_istore (pc := 117) dX9_planned_117 (Nat.le_of_ble_eq_true rfl) ?_
            dsimp only [lsSt, List.set, mLs, mEnt]
            refine r_aload_n (pc := 119) dX9_planned_119 rfl (by first | rfl | exact isRefV_rf _) ?_
            refine r_getf (pc := 120) dX9_planned_120 fX9_41 (by first | assumption | exact isI.gx (by assumption) | exact isI.gc (by assumption) | exact isW.gx (by assumption) | exact isW.gF (by assumption) | exact isW.gT (by assumption) (by omega) | exact isW.gS (by assumption) (by omega) | exact isW.gK (by assumption) (by omega) | exact isW.g1 (by assumption) | exact isW.g2 (by assumption) | exact isW.g3 (by assumption) | exact isI.gx (isW.i0 (by assumption)) | exact isI.gc (isW.i0 (by assumption)) | exact isI.gx (isW.i1 (by assumption)) | exact isI.gc (isW.i1 (by assumption)) | exact isI.gx (isW.i2 (by assumption)) | exact isI.gc (isW.i2 (by assumption)) | exact isI.gx (isW.i3 (by assumption)) | exact isI.gc (isW.i3 (by assumption)) | exact isI.gx (isW.i4 (by assumption)) | exact isI.gc (isW.i4 (by assumption)) | exact isI.gx (isW.i5 (by assumption)) | exact isI.gc (isW.i5 (by assumption)) | exact isR.gx (by assumption) | exact isRd.gx (by assumption) | exact isSp.gx (by assumption) | exact isI.gx (isR.i (by assumption)) | exact isI.gx (isRd.i (by assumption)) | exact isI.gc (isRd.i (by assumption)) | exact isI.gx (isSp.i (by assumption)) | exact isW.gx (isR.w (by assumption)) | exact isW.gF (isR.w (by assumption)) | fail "no such object") (by rfl) ?_
            refine r_getf (pc := 123) dX9_planned_123 fX9_144 (by first | assumption | exact isI.gx (by assumption) | exact isI.gc (by assumption) | exact isW.gx (by assumption) | exact isW.gF (by assumption) | exact isW.gT (by assumption) (by omega) | exact isW.gS (by assumption) (by omega) | exact isW.gK (by assumption) (by omega) | exact isW.g1 (by assumption) | exact isW.g2 (by assumption) | exact isW.g3 (by assumption) | exact isI.gx (isW.i0 (by assumption)) | exact isI.gc (isW.i0 (by assumption)) | exact isI.gx (isW.i1 (by assumption)) | exact isI.gc (isW.i1 (by assumption)) | exact isI.gx (isW.i2 (by assumption)) | exact isI.gc (isW.i2 (by assumption)) | exact isI.gx (isW.i3 (by assumption)) | exact isI.gc (isW.i3 (by assumption)) | exact isI.gx (isW.i4 (by assumption)) | exact isI.gc (isW.i4 (by assumption)) | exact isI.gx (isW.i5 (by assumption)) | exact isI.gc (isW.i5 (by assumption)) | exact isR.gx (by assumption) | exact isRd.gx (by assumption) | exact isSp.gx (by assumption) | exact isI.gx (isR.i (by assumption)) | exact isI.gx (isRd.i (by assumption)) | exact isI.gc (isRd.i (by assumption)) | exact isI.gx (isSp.i (by assumption)) | exact isW.gx (isR.w (by assumption)) | exact isW.gF (isR.w (by assumption)) | fail "no such object") (by rfl) ?_
            refine rj_iconst (pc := 126) dX9_planned_126 ?_
            refine rj_isub (pc := 127) dX9_planned_127 ?_
            refine r_istore (pc := 128) dX9_planned_128 (Nat.le_of_ble_eq_true rfl) ?_
            dsimp only [lsSt, List.set, mLs, mEnt]
            refine r_goto (pc := 130) (tgt := 154) dX9_planned_130 (by decide) ?_
            refine rj_iinc (pc := 154) dX9_planned_154 (Nat.le_of_ble_eq_true rfl) rfl ?_
            dsimp only [lsSt, List.set, mLs, mEnt]
            refine r_goto (pc := 157) (tgt := 19) dX9_planned_157 (by decide) ?_
            have y := ih (k + 1) (C 2 P - 100) ((Z : Int) - 1) mn (by omega) (by omega) (by omega) (by omega)
            rw [e1] at y
            rw [pcL, if_neg (by omega), Int.toNat_natCast, if_neg (show ¬ ¬ ownF c (C 2 P) = wi from fun z => z c_82), if_pos (show 100 ≤ C 2 P by omega)]
            first | exact y | (rw [show (P : Int) - 1 = (P : Int) + -1 by omega] at y; exact y) | (rw [hZ]; exact y) | (rw [← hZ] at y; exact y)
        · refine rj_iinc (pc := 85) dX9_planned_85 (Nat.le_of_ble_eq_true rfl) rfl ?_
          dsimp only [lsSt, List.set, mLs, mEnt]
          refine r_goto (pc := 88) (tgt := 154) dX9_planned_88 (by decide) ?_
          refine rj_iinc (pc := 154) dX9_planned_154 (Nat.le_of_ble_eq_true rfl) rfl ?_
          dsimp only [lsSt, List.set, mLs, mEnt]
          refine r_goto (pc := 157) (tgt := 19) dX9_planned_157 (by decide) ?_
          have y := ih (k + 1) wi ((P : Int) - 1) mn (by omega) (by omega) (by omega) (by omega)
          rw [e1] at y
          rw [pcL, if_neg (by omega), Int.toNat_natCast, if_pos (show ¬ ownF c (C 2 P) = wi from c_82)]
          first | exact y | (rw [show (P : Int) - 1 = (P : Int) + -1 by omega] at y; exact y) | (rw [hZ]; exact y) | (rw [← hZ] at y; exact y)
      · refine r_iload (pc := 31) dX9_planned_31 rfl ?_
        refine r_iload_n (pc := 33) dX9_planned_33 rfl ?_
        refine rj_icmp_ne (pc := 34) (tgt := 40) dX9_planned_34 (by decide) (by first | exact b01_r | exact bz_r | omega | (constructor <;> omega) | apply_assumption | (apply atF_r; assumption) | fail "no range") (by first | exact b01_r | exact bz_r | omega | (constructor <;> omega) | apply_assumption | (apply atF_r; assumption) | fail "no range") (fun c_34 => ?_) (fun c_34 => ?_)
        · refine r_aload_n (pc := 40) dX9_planned_40 rfl (by first | rfl | exact isRefV_rf _) ?_
          refine rj_bipush (pc := 41) dX9_planned_41 (by decide +kernel) ?_
          refine r_iload (pc := 43) dX9_planned_43 rfl ?_
          refine rj_iadd (pc := 45) dX9_planned_45 ?_
          refine r_callV1 (pc := 46) dX9_planned_46 qX9_placeOfEntry kX9_161 vX9_placeOfEntry (by first | assumption | exact isI.gx (by assumption) | exact isI.gc (by assumption) | exact isW.gx (by assumption) | exact isW.gF (by assumption) | exact isW.gT (by assumption) (by omega) | exact isW.gS (by assumption) (by omega) | exact isW.gK (by assumption) (by omega) | exact isW.g1 (by assumption) | exact isW.g2 (by assumption) | exact isW.g3 (by assumption) | exact isI.gx (isW.i0 (by assumption)) | exact isI.gc (isW.i0 (by assumption)) | exact isI.gx (isW.i1 (by assumption)) | exact isI.gc (isW.i1 (by assumption)) | exact isI.gx (isW.i2 (by assumption)) | exact isI.gc (isW.i2 (by assumption)) | exact isI.gx (isW.i3 (by assumption)) | exact isI.gc (isW.i3 (by assumption)) | exact isI.gx (isW.i4 (by assumption)) | exact isI.gc (isW.i4 (by assumption)) | exact isI.gx (isW.i5 (by assumption)) | exact isI.gc (isW.i5 (by assumption)) | exact isR.gx (by assumption) | exact isRd.gx (by assumption) | exact isSp.gx (by assumption) | exact isI.gx (isR.i (by assumption)) | exact isI.gx (isRd.i (by assumption)) | exact isI.gc (isRd.i (by assumption)) | exact isI.gx (isSp.i (by assumption)) | exact isW.gx (isR.w (by assumption)) | exact isW.gF (isR.w (by assumption)) | fail "no such object") rfl rfl (Nat.le_of_ble_eq_true rfl) (cq_placeOfEntry _ hW hc hZ hcapZ hC (i := 100 + wi) ⟨by omega, by omega⟩) (fun v_46 h_46 q_46 => ?_)
          obtain ⟨rfl, rfl⟩ := q_46
          have rq := peL_r (f := C 2) (i := 100 + wi) Z 0
          refine rj_iconst (pc := 49) dX9_planned_49 ?_
          refine rj_isub (pc := 50) dX9_planned_50 ?_
          refine r_istore (pc := 51) dX9_planned_51 (Nat.le_of_ble_eq_true rfl) ?_
          dsimp only [lsSt, List.set, mLs, mEnt]
          refine r_aload_n (pc := 53) dX9_planned_53 rfl (by first | rfl | exact isRefV_rf _) ?_
          refine rj_bipush (pc := 54) dX9_planned_54 (by decide +kernel) ?_
          refine r_iload (pc := 56) dX9_planned_56 rfl ?_
          refine rj_iadd (pc := 58) dX9_planned_58 ?_
          refine r_callV1 (pc := 59) dX9_planned_59 qX9_ownerOf kX9_151 vX9_ownerOf (by first | assumption | exact isI.gx (by assumption) | exact isI.gc (by assumption) | exact isW.gx (by assumption) | exact isW.gF (by assumption) | exact isW.gT (by assumption) (by omega) | exact isW.gS (by assumption) (by omega) | exact isW.gK (by assumption) (by omega) | exact isW.g1 (by assumption) | exact isW.g2 (by assumption) | exact isW.g3 (by assumption) | exact isI.gx (isW.i0 (by assumption)) | exact isI.gc (isW.i0 (by assumption)) | exact isI.gx (isW.i1 (by assumption)) | exact isI.gc (isW.i1 (by assumption)) | exact isI.gx (isW.i2 (by assumption)) | exact isI.gc (isW.i2 (by assumption)) | exact isI.gx (isW.i3 (by assumption)) | exact isI.gc (isW.i3 (by assumption)) | exact isI.gx (isW.i4 (by assumption)) | exact isI.gc (isW.i4 (by assumption)) | exact isI.gx (isW.i5 (by assumption)) | exact isI.gc (isW.i5 (by assumption)) | exact isR.gx (by assumption) | exact isRd.gx (by assumption) | exact isSp.gx (by assumption) | exact isI.gx (isR.i (by assumption)) | exact isI.gx (isRd.i (by assumption)) | exact isI.gc (isRd.i (by assumption)) | exact isI.gx (isSp.i (by assumption)) | exact isW.gx (isR.w (by assumption)) | exact isW.gF (isR.w (by assumption)) | fail "no such object") rfl rfl (Nat.le_of_ble_eq_true rfl) (cw_ownerOf _ hW hc (i := 100 + wi) ⟨by omega, by omega⟩) (fun v_59 h_59 q_59 => ?_)
          obtain ⟨rfl, rfl⟩ := q_59
          have ro := hO (100 + wi)
          refine r_istore (pc := 62) dX9_planned_62 (Nat.le_of_ble_eq_true rfl) ?_
          dsimp only [lsSt, List.set, mLs, mEnt]
          refine r_goto (pc := 64) (tgt := 154) dX9_planned_64 (by decide) ?_
          refine rj_iinc (pc := 154) dX9_planned_154 (Nat.le_of_ble_eq_true rfl) rfl ?_
          dsimp only [lsSt, List.set, mLs, mEnt]
          refine r_goto (pc := 157) (tgt := 19) dX9_planned_157 (by decide) ?_
          have y := ih (k + 1) (ownF c (100 + wi)) (peL (C 2) (100 + wi) Z 0 - 1) mn (by omega) (by omega) (by omega) (by omega)
          rw [e1] at y
          rw [pcL, if_pos (by omega), if_neg (by omega)]
          first | exact y | (rw [show (P : Int) - 1 = (P : Int) + -1 by omega] at y; exact y) | (rw [hZ]; exact y) | (rw [← hZ] at y; exact y)
        · refine r_goto (pc := 37) (tgt := 160) dX9_planned_37 (by decide) ?_
          refine r_iload_n (pc := 160) dX9_planned_160 rfl ?_
          refine rj_iconst (pc := 161) dX9_planned_161 ?_
          refine rj_icmp_ne (pc := 162) (tgt := 169) dX9_planned_162 (by decide) (by first | exact b01_r | exact bz_r | omega | (constructor <;> omega) | apply_assumption | (apply atF_r; assumption) | fail "no range") (by first | exact b01_r | exact bz_r | omega | (constructor <;> omega) | apply_assumption | (apply atF_r; assumption) | fail "no range") (fun c_162 => ?_) (fun c_162 => ?_)
          · refine rj_iconst (pc := 169) dX9_planned_169 ?_
            refine r_ireturn (pc := 170) .int dX9_planned_170 rfl (by first | rfl | assumption) ?_
            first
            | exact ⟨by rw [pcL, if_pos (by omega), if_pos (by omega), if_pos (by omega)], rfl⟩
            | exact ⟨by rw [pcL, if_pos (by omega), if_pos (by omega), if_neg (by omega)], rfl⟩
            | exact ⟨by rw [pcL, if_neg (by omega), Int.toNat_natCast, if_neg (show ¬ ¬ ownF c (C 2 P) = wi from fun z => z c_82), if_neg (show ¬ 100 ≤ C 2 P by omega), if_pos (by omega)], rfl⟩
          · refine r_iload_n (pc := 165) dX9_planned_165 rfl ?_
            refine r_goto (pc := 166) (tgt := 170) dX9_planned_166 (by decide) ?_
            refine r_ireturn (pc := 170) .int dX9_planned_170 rfl (by first | rfl | assumption) ?_
            first
            | exact ⟨by rw [pcL, if_pos (by omega), if_pos (by omega), if_pos (by omega)], rfl⟩
            | exact ⟨by rw [pcL, if_pos (by omega), if_pos (by omega), if_neg (by omega)], rfl⟩
            | exact ⟨by rw [pcL, if_neg (by omega), Int.toNat_natCast, if_neg (show ¬ ¬ ownF c (C 2 P) = wi from fun z => z c_82), if_neg (show ¬ 100 ≤ C 2 P by omega), if_pos (by omega)], rfl⟩
set_option maxHeartbeats 4000000 in
set_option maxRecDepth 100000 in
theorem cq_planned {G : mG} {l : Launch} (d : Nat) {h : mH} {w : Nat} {c : Nat → Int} {C : Nat → Nat → Int} {nm : Nat → Int64} {g : Nat → Option Nat} (hW : isW h w c C nm g) (hc : ∀ q, InR (c q)) {Z : Nat} (hZ : c 10 = (Z : Int)) (hcapZ : Z ≤ 150) (hC : ∀ q, InR (C 2 q)) (hO : oOk c) {s i : Int} (hs : 0 ≤ s ∧ s ≤ 59) (hi : InR i) : RUNM G l (d + 3) mX9_planned [.ref w, .int (J s), .int (J i)] h (fun v h' => v = some (.int (J (pcL c (C 2) Z s i 1000000 s ((Z : Int) - 1) 0))) ∧ h' = h) := by
  refine RUNM.of (by decide +kernel) (Nat.le_of_ble_eq_true rfl) ?_
  have r10 := hc 10
  refine rj_iconst (pc := 0) dX9_planned_0 ?_
  refine r_istore_n (pc := 1) dX9_planned_1 (Nat.le_of_ble_eq_true rfl) ?_
  dsimp only [lsSt, List.set, mLs, mEnt]
  refine r_iload_n (pc := 2) dX9_planned_2 rfl ?_
  refine r_istore (pc := 3) dX9_planned_3 (Nat.le_of_ble_eq_true rfl) ?_
  dsimp only [lsSt, List.set, mLs, mEnt]
  refine r_aload_n (pc := 5) dX9_planned_5 rfl (by first | rfl | exact isRefV_rf _) ?_
  refine r_getf (pc := 6) dX9_planned_6 fX9_41 (by first | assumption | exact isI.gx (by assumption) | exact isI.gc (by assumption) | exact isW.gx (by assumption) | exact isW.gF (by assumption) | exact isW.gT (by assumption) (by omega) | exact isW.gS (by assumption) (by omega) | exact isW.gK (by assumption) (by omega) | exact isW.g1 (by assumption) | exact isW.g2 (by assumption) | exact isW.g3 (by assumption) | exact isI.gx (isW.i0 (by assumption)) | exact isI.gc (isW.i0 (by assumption)) | exact isI.gx (isW.i1 (by assumption)) | exact isI.gc (isW.i1 (by assumption)) | exact isI.gx (isW.i2 (by assumption)) | exact isI.gc (isW.i2 (by assumption)) | exact isI.gx (isW.i3 (by assumption)) | exact isI.gc (isW.i3 (by assumption)) | exact isI.gx (isW.i4 (by assumption)) | exact isI.gc (isW.i4 (by assumption)) | exact isI.gx (isW.i5 (by assumption)) | exact isI.gc (isW.i5 (by assumption)) | exact isR.gx (by assumption) | exact isRd.gx (by assumption) | exact isSp.gx (by assumption) | exact isI.gx (isR.i (by assumption)) | exact isI.gx (isRd.i (by assumption)) | exact isI.gc (isRd.i (by assumption)) | exact isI.gx (isSp.i (by assumption)) | exact isW.gx (isR.w (by assumption)) | exact isW.gF (isR.w (by assumption)) | fail "no such object") (by rfl) ?_
  refine r_getf (pc := 9) dX9_planned_9 fX9_144 (by first | assumption | exact isI.gx (by assumption) | exact isI.gc (by assumption) | exact isW.gx (by assumption) | exact isW.gF (by assumption) | exact isW.gT (by assumption) (by omega) | exact isW.gS (by assumption) (by omega) | exact isW.gK (by assumption) (by omega) | exact isW.g1 (by assumption) | exact isW.g2 (by assumption) | exact isW.g3 (by assumption) | exact isI.gx (isW.i0 (by assumption)) | exact isI.gc (isW.i0 (by assumption)) | exact isI.gx (isW.i1 (by assumption)) | exact isI.gc (isW.i1 (by assumption)) | exact isI.gx (isW.i2 (by assumption)) | exact isI.gc (isW.i2 (by assumption)) | exact isI.gx (isW.i3 (by assumption)) | exact isI.gc (isW.i3 (by assumption)) | exact isI.gx (isW.i4 (by assumption)) | exact isI.gc (isW.i4 (by assumption)) | exact isI.gx (isW.i5 (by assumption)) | exact isI.gc (isW.i5 (by assumption)) | exact isR.gx (by assumption) | exact isRd.gx (by assumption) | exact isSp.gx (by assumption) | exact isI.gx (isR.i (by assumption)) | exact isI.gx (isRd.i (by assumption)) | exact isI.gc (isRd.i (by assumption)) | exact isI.gx (isSp.i (by assumption)) | exact isW.gx (isR.w (by assumption)) | exact isW.gF (isR.w (by assumption)) | fail "no such object") (by rfl) ?_
  rw [hZ]
  refine rj_iconst (pc := 12) dX9_planned_12 ?_
  refine rj_isub (pc := 13) dX9_planned_13 ?_
  refine r_istore (pc := 14) dX9_planned_14 (Nat.le_of_ble_eq_true rfl) ?_
  dsimp only [lsSt, List.set, mLs, mEnt]
  refine rj_iconst (pc := 16) dX9_planned_16 ?_
  refine r_istore (pc := 17) dX9_planned_17 (Nat.le_of_ble_eq_true rfl) ?_
  dsimp only [lsSt, List.set, mLs, mEnt]
  exact L_planned d hW hc hZ hcapZ hC hO hs hi 1000000 0 s ((Z : Int) - 1) 0 (by omega) (by omega) (by omega) (by omega)
end mg_9j
section mg_9k
/-! ===== the class: its reader, the small ones, on any tape ===== -/
def ftE (e i : Int) : Int := if e < 0 then i else e
theorem ftE_r {e i : Int} (he : InR e) (hi : InR i) : InR (ftE e i) := by unfold ftE; split <;> assumption
theorem hereC_r {p z : Int} {f : Nat → Int} (hf : ∀ q, InR (f q)) : InR (hereC p z f) := by
  unfold hereC; split
  · exact hf _
  · decide
set_option maxHeartbeats 4000000 in
set_option maxRecDepth 100000 in
theorem rd_failAt {G : mG} {l : Launch} (d : Nat) {h : mH} {a : Nat} {p e o z : Int} {f : Nat → Int} (hD : isRd h a p e o z f) (he : InR e) (i : Int) : RUNM G l (d) mX2_failAt [.ref a, .int (J i)] h (fun v h' => v = none ∧ isRd h' a z (ftE e i) o z f ∧ Same (dBlk a) h h') := by
  refine RUNM.of (by decide +kernel) (Nat.le_of_ble_eq_true rfl) ?_
  refine r_aload_n (pc := 0) dX2_failAt_0 rfl (by first | rfl | exact isRefV_rf _) ?_
  refine r_getf (pc := 1) dX2_failAt_1 fX2_49 (by first | assumption | exact isI.gx (by assumption) | exact isI.gc (by assumption) | exact isW.gx (by assumption) | exact isW.gF (by assumption) | exact isW.gT (by assumption) (by omega) | exact isW.gS (by assumption) (by omega) | exact isW.gK (by assumption) (by omega) | exact isW.g1 (by assumption) | exact isW.g2 (by assumption) | exact isW.g3 (by assumption) | exact isI.gx (isW.i0 (by assumption)) | exact isI.gc (isW.i0 (by assumption)) | exact isI.gx (isW.i1 (by assumption)) | exact isI.gc (isW.i1 (by assumption)) | exact isI.gx (isW.i2 (by assumption)) | exact isI.gc (isW.i2 (by assumption)) | exact isI.gx (isW.i3 (by assumption)) | exact isI.gc (isW.i3 (by assumption)) | exact isI.gx (isW.i4 (by assumption)) | exact isI.gc (isW.i4 (by assumption)) | exact isI.gx (isW.i5 (by assumption)) | exact isI.gc (isW.i5 (by assumption)) | exact isR.gx (by assumption) | exact isRd.gx (by assumption) | exact isSp.gx (by assumption) | exact isI.gx (isR.i (by assumption)) | exact isI.gx (isRd.i (by assumption)) | exact isI.gc (isRd.i (by assumption)) | exact isI.gx (isSp.i (by assumption)) | exact isW.gx (isR.w (by assumption)) | exact isW.gF (isR.w (by assumption)) | fail "no such object") (by rfl) ?_
  refine rj_if_ge (pc := 4) (tgt := 12) dX2_failAt_4 (by decide) (by first | exact b01_r | exact bz_r | omega | (constructor <;> omega) | apply_assumption | (apply atF_r; assumption) | fail "no range") (fun c_4 => ?_) (fun c_4 => ?_)
  · refine r_aload_n (pc := 12) dX2_failAt_12 rfl (by first | rfl | exact isRefV_rf _) ?_
    refine r_aload_n (pc := 13) dX2_failAt_13 rfl (by first | rfl | exact isRefV_rf _) ?_
    refine r_getf (pc := 14) dX2_failAt_14 fX2_14 (by first | assumption | exact isI.gx (by assumption) | exact isI.gc (by assumption) | exact isW.gx (by assumption) | exact isW.gF (by assumption) | exact isW.gT (by assumption) (by omega) | exact isW.gS (by assumption) (by omega) | exact isW.gK (by assumption) (by omega) | exact isW.g1 (by assumption) | exact isW.g2 (by assumption) | exact isW.g3 (by assumption) | exact isI.gx (isW.i0 (by assumption)) | exact isI.gc (isW.i0 (by assumption)) | exact isI.gx (isW.i1 (by assumption)) | exact isI.gc (isW.i1 (by assumption)) | exact isI.gx (isW.i2 (by assumption)) | exact isI.gc (isW.i2 (by assumption)) | exact isI.gx (isW.i3 (by assumption)) | exact isI.gc (isW.i3 (by assumption)) | exact isI.gx (isW.i4 (by assumption)) | exact isI.gc (isW.i4 (by assumption)) | exact isI.gx (isW.i5 (by assumption)) | exact isI.gc (isW.i5 (by assumption)) | exact isR.gx (by assumption) | exact isRd.gx (by assumption) | exact isSp.gx (by assumption) | exact isI.gx (isR.i (by assumption)) | exact isI.gx (isRd.i (by assumption)) | exact isI.gc (isRd.i (by assumption)) | exact isI.gx (isSp.i (by assumption)) | exact isW.gx (isR.w (by assumption)) | exact isW.gF (isR.w (by assumption)) | fail "no such object") (by rfl) ?_
    refine r_getf (pc := 17) dX2_failAt_17 fX2_62 (by first | assumption | exact isI.gx (by assumption) | exact isI.gc (by assumption) | exact isW.gx (by assumption) | exact isW.gF (by assumption) | exact isW.gT (by assumption) (by omega) | exact isW.gS (by assumption) (by omega) | exact isW.gK (by assumption) (by omega) | exact isW.g1 (by assumption) | exact isW.g2 (by assumption) | exact isW.g3 (by assumption) | exact isI.gx (isW.i0 (by assumption)) | exact isI.gc (isW.i0 (by assumption)) | exact isI.gx (isW.i1 (by assumption)) | exact isI.gc (isW.i1 (by assumption)) | exact isI.gx (isW.i2 (by assumption)) | exact isI.gc (isW.i2 (by assumption)) | exact isI.gx (isW.i3 (by assumption)) | exact isI.gc (isW.i3 (by assumption)) | exact isI.gx (isW.i4 (by assumption)) | exact isI.gc (isW.i4 (by assumption)) | exact isI.gx (isW.i5 (by assumption)) | exact isI.gc (isW.i5 (by assumption)) | exact isR.gx (by assumption) | exact isRd.gx (by assumption) | exact isSp.gx (by assumption) | exact isI.gx (isR.i (by assumption)) | exact isI.gx (isRd.i (by assumption)) | exact isI.gc (isRd.i (by assumption)) | exact isI.gx (isSp.i (by assumption)) | exact isW.gx (isR.w (by assumption)) | exact isW.gF (isR.w (by assumption)) | fail "no such object") (by rfl) ?_
    refine rc_putD1 (pc := 20) dX2_failAt_20 fX2_53 (by assumption) (fun h_20 hW_20 hS_20 => ?_)
    refine r_return (pc := 23) dX2_failAt_23 rfl ?_
    first | exact ⟨rfl, by unfold ftE; rw [if_pos (by omega)]; exact hW_20, hS_9.trans hS_20⟩ | exact ⟨rfl, by unfold ftE; rw [if_neg (by omega)]; exact hW_20, hS_20⟩
  · refine r_aload_n (pc := 7) dX2_failAt_7 rfl (by first | rfl | exact isRefV_rf _) ?_
    refine r_iload_n (pc := 8) dX2_failAt_8 rfl ?_
    refine rc_putD2 (pc := 9) dX2_failAt_9 fX2_49 (by assumption) (fun h_9 hW_9 hS_9 => ?_)
    refine r_aload_n (pc := 12) dX2_failAt_12 rfl (by first | rfl | exact isRefV_rf _) ?_
    refine r_aload_n (pc := 13) dX2_failAt_13 rfl (by first | rfl | exact isRefV_rf _) ?_
    refine r_getf (pc := 14) dX2_failAt_14 fX2_14 (by first | assumption | exact isI.gx (by assumption) | exact isI.gc (by assumption) | exact isW.gx (by assumption) | exact isW.gF (by assumption) | exact isW.gT (by assumption) (by omega) | exact isW.gS (by assumption) (by omega) | exact isW.gK (by assumption) (by omega) | exact isW.g1 (by assumption) | exact isW.g2 (by assumption) | exact isW.g3 (by assumption) | exact isI.gx (isW.i0 (by assumption)) | exact isI.gc (isW.i0 (by assumption)) | exact isI.gx (isW.i1 (by assumption)) | exact isI.gc (isW.i1 (by assumption)) | exact isI.gx (isW.i2 (by assumption)) | exact isI.gc (isW.i2 (by assumption)) | exact isI.gx (isW.i3 (by assumption)) | exact isI.gc (isW.i3 (by assumption)) | exact isI.gx (isW.i4 (by assumption)) | exact isI.gc (isW.i4 (by assumption)) | exact isI.gx (isW.i5 (by assumption)) | exact isI.gc (isW.i5 (by assumption)) | exact isR.gx (by assumption) | exact isRd.gx (by assumption) | exact isSp.gx (by assumption) | exact isI.gx (isR.i (by assumption)) | exact isI.gx (isRd.i (by assumption)) | exact isI.gc (isRd.i (by assumption)) | exact isI.gx (isSp.i (by assumption)) | exact isW.gx (isR.w (by assumption)) | exact isW.gF (isR.w (by assumption)) | fail "no such object") (by rfl) ?_
    refine r_getf (pc := 17) dX2_failAt_17 fX2_62 (by first | assumption | exact isI.gx (by assumption) | exact isI.gc (by assumption) | exact isW.gx (by assumption) | exact isW.gF (by assumption) | exact isW.gT (by assumption) (by omega) | exact isW.gS (by assumption) (by omega) | exact isW.gK (by assumption) (by omega) | exact isW.g1 (by assumption) | exact isW.g2 (by assumption) | exact isW.g3 (by assumption) | exact isI.gx (isW.i0 (by assumption)) | exact isI.gc (isW.i0 (by assumption)) | exact isI.gx (isW.i1 (by assumption)) | exact isI.gc (isW.i1 (by assumption)) | exact isI.gx (isW.i2 (by assumption)) | exact isI.gc (isW.i2 (by assumption)) | exact isI.gx (isW.i3 (by assumption)) | exact isI.gc (isW.i3 (by assumption)) | exact isI.gx (isW.i4 (by assumption)) | exact isI.gc (isW.i4 (by assumption)) | exact isI.gx (isW.i5 (by assumption)) | exact isI.gc (isW.i5 (by assumption)) | exact isR.gx (by assumption) | exact isRd.gx (by assumption) | exact isSp.gx (by assumption) | exact isI.gx (isR.i (by assumption)) | exact isI.gx (isRd.i (by assumption)) | exact isI.gc (isRd.i (by assumption)) | exact isI.gx (isSp.i (by assumption)) | exact isW.gx (isR.w (by assumption)) | exact isW.gF (isR.w (by assumption)) | fail "no such object") (by rfl) ?_
    refine rc_putD1 (pc := 20) dX2_failAt_20 fX2_53 (by assumption) (fun h_20 hW_20 hS_20 => ?_)
    refine r_return (pc := 23) dX2_failAt_23 rfl ?_
    first | exact ⟨rfl, by unfold ftE; rw [if_pos (by omega)]; exact hW_20, hS_9.trans hS_20⟩ | exact ⟨rfl, by unfold ftE; rw [if_neg (by omega)]; exact hW_20, hS_20⟩
set_option maxHeartbeats 4000000 in
set_option maxRecDepth 100000 in
theorem rd_expect {G : mG} {l : Launch} (d : Nat) {h : mH} {a : Nat} {p e o z : Int} {f : Nat → Int} (hD : isRd h a p e o z f) (hp : InR p) (he : InR e) (ho : InR o) (hz : InR z) (hf : ∀ q, InR (f q)) {i : Int} (hi : InR i) : RUNM G l (d + 1) mX2_expect [.ref a, .int (J i)] h (fun v h' => v = none ∧ ((hereC p z f = i ∧ isRd h' a (p + 1) e o z f) ∨ (¬ hereC p z f = i ∧ isRd h' a z (ftE e p) o z f)) ∧ Same (dBlk a) h h') := by
  refine RUNM.of (by decide +kernel) (Nat.le_of_ble_eq_true rfl) ?_
  refine r_aload_n (pc := 0) dX2_expect_0 rfl (by first | rfl | exact isRefV_rf _) ?_
  refine r_callV0 (pc := 1) dX2_expect_1 qX2_here kX2_34 vX2_here (by first | assumption | exact isI.gx (by assumption) | exact isI.gc (by assumption) | exact isW.gx (by assumption) | exact isW.gF (by assumption) | exact isW.gT (by assumption) (by omega) | exact isW.gS (by assumption) (by omega) | exact isW.gK (by assumption) (by omega) | exact isW.g1 (by assumption) | exact isW.g2 (by assumption) | exact isW.g3 (by assumption) | exact isI.gx (isW.i0 (by assumption)) | exact isI.gc (isW.i0 (by assumption)) | exact isI.gx (isW.i1 (by assumption)) | exact isI.gc (isW.i1 (by assumption)) | exact isI.gx (isW.i2 (by assumption)) | exact isI.gc (isW.i2 (by assumption)) | exact isI.gx (isW.i3 (by assumption)) | exact isI.gc (isW.i3 (by assumption)) | exact isI.gx (isW.i4 (by assumption)) | exact isI.gc (isW.i4 (by assumption)) | exact isI.gx (isW.i5 (by assumption)) | exact isI.gc (isW.i5 (by assumption)) | exact isR.gx (by assumption) | exact isRd.gx (by assumption) | exact isSp.gx (by assumption) | exact isI.gx (isR.i (by assumption)) | exact isI.gx (isRd.i (by assumption)) | exact isI.gc (isRd.i (by assumption)) | exact isI.gx (isSp.i (by assumption)) | exact isW.gx (isR.w (by assumption)) | exact isW.gF (isR.w (by assumption)) | fail "no such object") rfl rfl (Nat.le_of_ble_eq_true rfl) (cd_here _ hD hp he ho hz hf) (fun v_1 h_1 q_1 => ?_)
  obtain ⟨rfl, rfl⟩ := q_1
  have rh := hereC_r (p := p) (z := z) hf
  refine r_iload_n (pc := 4) dX2_expect_4 rfl ?_
  refine rj_icmp_ne (pc := 5) (tgt := 21) dX2_expect_5 (by decide) (by first | exact b01_r | exact bz_r | omega | (constructor <;> omega) | apply_assumption | (apply atF_r; assumption) | fail "no range") (by first | exact b01_r | exact bz_r | omega | (constructor <;> omega) | apply_assumption | (apply atF_r; assumption) | fail "no range") (fun c_5 => ?_) (fun c_5 => ?_)
  · refine r_aload_n (pc := 21) dX2_expect_21 rfl (by first | rfl | exact isRefV_rf _) ?_
    refine r_aload_n (pc := 22) dX2_expect_22 rfl (by first | rfl | exact isRefV_rf _) ?_
    refine r_getf (pc := 23) dX2_expect_23 fX2_53 (by first | assumption | exact isI.gx (by assumption) | exact isI.gc (by assumption) | exact isW.gx (by assumption) | exact isW.gF (by assumption) | exact isW.gT (by assumption) (by omega) | exact isW.gS (by assumption) (by omega) | exact isW.gK (by assumption) (by omega) | exact isW.g1 (by assumption) | exact isW.g2 (by assumption) | exact isW.g3 (by assumption) | exact isI.gx (isW.i0 (by assumption)) | exact isI.gc (isW.i0 (by assumption)) | exact isI.gx (isW.i1 (by assumption)) | exact isI.gc (isW.i1 (by assumption)) | exact isI.gx (isW.i2 (by assumption)) | exact isI.gc (isW.i2 (by assumption)) | exact isI.gx (isW.i3 (by assumption)) | exact isI.gc (isW.i3 (by assumption)) | exact isI.gx (isW.i4 (by assumption)) | exact isI.gc (isW.i4 (by assumption)) | exact isI.gx (isW.i5 (by assumption)) | exact isI.gc (isW.i5 (by assumption)) | exact isR.gx (by assumption) | exact isRd.gx (by assumption) | exact isSp.gx (by assumption) | exact isI.gx (isR.i (by assumption)) | exact isI.gx (isRd.i (by assumption)) | exact isI.gc (isRd.i (by assumption)) | exact isI.gx (isSp.i (by assumption)) | exact isW.gx (isR.w (by assumption)) | exact isW.gF (isR.w (by assumption)) | fail "no such object") (by rfl) ?_
    refine r_callV1 (pc := 26) dX2_expect_26 qX2_failAt kX2_56 vX2_failAt (by first | assumption | exact isI.gx (by assumption) | exact isI.gc (by assumption) | exact isW.gx (by assumption) | exact isW.gF (by assumption) | exact isW.gT (by assumption) (by omega) | exact isW.gS (by assumption) (by omega) | exact isW.gK (by assumption) (by omega) | exact isW.g1 (by assumption) | exact isW.g2 (by assumption) | exact isW.g3 (by assumption) | exact isI.gx (isW.i0 (by assumption)) | exact isI.gc (isW.i0 (by assumption)) | exact isI.gx (isW.i1 (by assumption)) | exact isI.gc (isW.i1 (by assumption)) | exact isI.gx (isW.i2 (by assumption)) | exact isI.gc (isW.i2 (by assumption)) | exact isI.gx (isW.i3 (by assumption)) | exact isI.gc (isW.i3 (by assumption)) | exact isI.gx (isW.i4 (by assumption)) | exact isI.gc (isW.i4 (by assumption)) | exact isI.gx (isW.i5 (by assumption)) | exact isI.gc (isW.i5 (by assumption)) | exact isR.gx (by assumption) | exact isRd.gx (by assumption) | exact isSp.gx (by assumption) | exact isI.gx (isR.i (by assumption)) | exact isI.gx (isRd.i (by assumption)) | exact isI.gc (isRd.i (by assumption)) | exact isI.gx (isSp.i (by assumption)) | exact isW.gx (isR.w (by assumption)) | exact isW.gF (isR.w (by assumption)) | fail "no such object") rfl rfl (Nat.le_of_ble_eq_true rfl) (rd_failAt _ hD he p) (fun v_26 h_26 q_26 => ?_)
    obtain ⟨rfl, D_26, S_26⟩ := q_26
    refine r_return (pc := 29) dX2_expect_29 rfl ?_
    first | exact ⟨rfl, Or.inl ⟨c_5, hW_15⟩, hS_15⟩ | exact ⟨rfl, Or.inr ⟨c_5, D_26⟩, S_26⟩
  · refine r_aload_n (pc := 8) dX2_expect_8 rfl (by first | rfl | exact isRefV_rf _) ?_
    refine r_dup (pc := 9) dX2_expect_9 (by first | rfl | (cases ‹Option Nat› <;> rfl)) ?_
    refine r_getf (pc := 10) dX2_expect_10 fX2_53 (by first | assumption | exact isI.gx (by assumption) | exact isI.gc (by assumption) | exact isW.gx (by assumption) | exact isW.gF (by assumption) | exact isW.gT (by assumption) (by omega) | exact isW.gS (by assumption) (by omega) | exact isW.gK (by assumption) (by omega) | exact isW.g1 (by assumption) | exact isW.g2 (by assumption) | exact isW.g3 (by assumption) | exact isI.gx (isW.i0 (by assumption)) | exact isI.gc (isW.i0 (by assumption)) | exact isI.gx (isW.i1 (by assumption)) | exact isI.gc (isW.i1 (by assumption)) | exact isI.gx (isW.i2 (by assumption)) | exact isI.gc (isW.i2 (by assumption)) | exact isI.gx (isW.i3 (by assumption)) | exact isI.gc (isW.i3 (by assumption)) | exact isI.gx (isW.i4 (by assumption)) | exact isI.gc (isW.i4 (by assumption)) | exact isI.gx (isW.i5 (by assumption)) | exact isI.gc (isW.i5 (by assumption)) | exact isR.gx (by assumption) | exact isRd.gx (by assumption) | exact isSp.gx (by assumption) | exact isI.gx (isR.i (by assumption)) | exact isI.gx (isRd.i (by assumption)) | exact isI.gc (isRd.i (by assumption)) | exact isI.gx (isSp.i (by assumption)) | exact isW.gx (isR.w (by assumption)) | exact isW.gF (isR.w (by assumption)) | fail "no such object") (by rfl) ?_
    refine rj_iconst (pc := 13) dX2_expect_13 ?_
    refine rj_iadd (pc := 14) dX2_expect_14 ?_
    refine rc_putD1 (pc := 15) dX2_expect_15 fX2_53 (by assumption) (fun h_15 hW_15 hS_15 => ?_)
    refine r_goto (pc := 18) (tgt := 29) dX2_expect_18 (by decide) ?_
    refine r_return (pc := 29) dX2_expect_29 rfl ?_
    first | exact ⟨rfl, Or.inl ⟨c_5, hW_15⟩, hS_15⟩ | exact ⟨rfl, Or.inr ⟨c_5, D_26⟩, S_26⟩
set_option maxHeartbeats 4000000 in
set_option maxRecDepth 100000 in
theorem rd_figure {G : mG} {l : Launch} (d : Nat) {h : mH} {a : Nat} {p e o z : Int} {f : Nat → Int} (hD : isRd h a p e o z f) (hp : InR p) (he : InR e) (ho : InR o) (hz : InR z) (hf : ∀ q, InR (f q)) {k : Int} (hk : InR k) (hk1 : 0 ≤ k ∧ k ≤ 10) (hh : -1 ≤ hereC p z f) : RUNM G l (d + 1) mX2_readFigure [.ref a, .int (J k)] h (fun v h' => ((0 ≤ hereC p z f - 48 ∧ hereC p z f - 48 < k) ∧ v = some (.int (J (hereC p z f - 48))) ∧ isRd h' a (p + 1) e o z f ∧ Same (dBlk a) h h') ∨ (¬ (0 ≤ hereC p z f - 48 ∧ hereC p z f - 48 < k) ∧ v = some (.int (J 0)) ∧ isRd h' a z (ftE e p) o z f ∧ Same (dBlk a) h h')) := by
  refine RUNM.of (by decide +kernel) (Nat.le_of_ble_eq_true rfl) ?_
  refine r_aload_n (pc := 0) dX2_readFigure_0 rfl (by first | rfl | exact isRefV_rf _) ?_
  refine r_callV0 (pc := 1) dX2_readFigure_1 qX2_here kX2_34 vX2_here (by first | assumption | exact isI.gx (by assumption) | exact isI.gc (by assumption) | exact isW.gx (by assumption) | exact isW.gF (by assumption) | exact isW.gT (by assumption) (by omega) | exact isW.gS (by assumption) (by omega) | exact isW.gK (by assumption) (by omega) | exact isW.g1 (by assumption) | exact isW.g2 (by assumption) | exact isW.g3 (by assumption) | exact isI.gx (isW.i0 (by assumption)) | exact isI.gc (isW.i0 (by assumption)) | exact isI.gx (isW.i1 (by assumption)) | exact isI.gc (isW.i1 (by assumption)) | exact isI.gx (isW.i2 (by assumption)) | exact isI.gc (isW.i2 (by assumption)) | exact isI.gx (isW.i3 (by assumption)) | exact isI.gc (isW.i3 (by assumption)) | exact isI.gx (isW.i4 (by assumption)) | exact isI.gc (isW.i4 (by assumption)) | exact isI.gx (isW.i5 (by assumption)) | exact isI.gc (isW.i5 (by assumption)) | exact isR.gx (by assumption) | exact isRd.gx (by assumption) | exact isSp.gx (by assumption) | exact isI.gx (isR.i (by assumption)) | exact isI.gx (isRd.i (by assumption)) | exact isI.gc (isRd.i (by assumption)) | exact isI.gx (isSp.i (by assumption)) | exact isW.gx (isR.w (by assumption)) | exact isW.gF (isR.w (by assumption)) | fail "no such object") rfl rfl (Nat.le_of_ble_eq_true rfl) (cd_here _ hD hp he ho hz hf) (fun v_1 h_1 q_1 => ?_)
  obtain ⟨rfl, rfl⟩ := q_1
  have rh := hereC_r (p := p) (z := z) hf
  refine rj_bipush (pc := 4) dX2_readFigure_4 (by decide +kernel) ?_
  refine rj_isub (pc := 6) dX2_readFigure_6 ?_
  refine r_istore_n (pc := 7) dX2_readFigure_7 (Nat.le_of_ble_eq_true rfl) ?_
  dsimp only [lsSt, List.set, mLs, mEnt]
  refine r_iload_n (pc := 8) dX2_readFigure_8 rfl ?_
  refine rj_if_lt (pc := 9) (tgt := 17) dX2_readFigure_9 (by decide) (by first | exact b01_r | exact bz_r | omega | (constructor <;> omega) | apply_assumption | (apply atF_r; assumption) | fail "no range") (fun c_9 => ?_) (fun c_9 => ?_)
  · refine r_aload_n (pc := 17) dX2_readFigure_17 rfl (by first | rfl | exact isRefV_rf _) ?_
    refine r_aload_n (pc := 18) dX2_readFigure_18 rfl (by first | rfl | exact isRefV_rf _) ?_
    refine r_getf (pc := 19) dX2_readFigure_19 fX2_53 (by first | assumption | exact isI.gx (by assumption) | exact isI.gc (by assumption) | exact isW.gx (by assumption) | exact isW.gF (by assumption) | exact isW.gT (by assumption) (by omega) | exact isW.gS (by assumption) (by omega) | exact isW.gK (by assumption) (by omega) | exact isW.g1 (by assumption) | exact isW.g2 (by assumption) | exact isW.g3 (by assumption) | exact isI.gx (isW.i0 (by assumption)) | exact isI.gc (isW.i0 (by assumption)) | exact isI.gx (isW.i1 (by assumption)) | exact isI.gc (isW.i1 (by assumption)) | exact isI.gx (isW.i2 (by assumption)) | exact isI.gc (isW.i2 (by assumption)) | exact isI.gx (isW.i3 (by assumption)) | exact isI.gc (isW.i3 (by assumption)) | exact isI.gx (isW.i4 (by assumption)) | exact isI.gc (isW.i4 (by assumption)) | exact isI.gx (isW.i5 (by assumption)) | exact isI.gc (isW.i5 (by assumption)) | exact isR.gx (by assumption) | exact isRd.gx (by assumption) | exact isSp.gx (by assumption) | exact isI.gx (isR.i (by assumption)) | exact isI.gx (isRd.i (by assumption)) | exact isI.gc (isRd.i (by assumption)) | exact isI.gx (isSp.i (by assumption)) | exact isW.gx (isR.w (by assumption)) | exact isW.gF (isR.w (by assumption)) | fail "no such object") (by rfl) ?_
    refine r_callV1 (pc := 22) dX2_readFigure_22 qX2_failAt kX2_56 vX2_failAt (by first | assumption | exact isI.gx (by assumption) | exact isI.gc (by assumption) | exact isW.gx (by assumption) | exact isW.gF (by assumption) | exact isW.gT (by assumption) (by omega) | exact isW.gS (by assumption) (by omega) | exact isW.gK (by assumption) (by omega) | exact isW.g1 (by assumption) | exact isW.g2 (by assumption) | exact isW.g3 (by assumption) | exact isI.gx (isW.i0 (by assumption)) | exact isI.gc (isW.i0 (by assumption)) | exact isI.gx (isW.i1 (by assumption)) | exact isI.gc (isW.i1 (by assumption)) | exact isI.gx (isW.i2 (by assumption)) | exact isI.gc (isW.i2 (by assumption)) | exact isI.gx (isW.i3 (by assumption)) | exact isI.gc (isW.i3 (by assumption)) | exact isI.gx (isW.i4 (by assumption)) | exact isI.gc (isW.i4 (by assumption)) | exact isI.gx (isW.i5 (by assumption)) | exact isI.gc (isW.i5 (by assumption)) | exact isR.gx (by assumption) | exact isRd.gx (by assumption) | exact isSp.gx (by assumption) | exact isI.gx (isR.i (by assumption)) | exact isI.gx (isRd.i (by assumption)) | exact isI.gc (isRd.i (by assumption)) | exact isI.gx (isSp.i (by assumption)) | exact isW.gx (isR.w (by assumption)) | exact isW.gF (isR.w (by assumption)) | fail "no such object") rfl rfl (Nat.le_of_ble_eq_true rfl) (rd_failAt _ hD he p) (fun v_22 h_22 q_22 => ?_)
    obtain ⟨rfl, D_22, S_22⟩ := q_22
    refine rj_iconst (pc := 25) dX2_readFigure_25 ?_
    refine r_ireturn (pc := 26) .int dX2_readFigure_26 rfl (by first | rfl | assumption) ?_
    first | exact Or.inl ⟨⟨by omega, by omega⟩, rfl, hW_34, hS_34⟩ | exact Or.inr ⟨by omega, rfl, D_22, S_22⟩
  · refine r_iload_n (pc := 12) dX2_readFigure_12 rfl ?_
    refine r_iload_n (pc := 13) dX2_readFigure_13 rfl ?_
    refine rj_icmp_lt (pc := 14) (tgt := 27) dX2_readFigure_14 (by decide) (by first | exact b01_r | exact bz_r | omega | (constructor <;> omega) | apply_assumption | (apply atF_r; assumption) | fail "no range") (by first | exact b01_r | exact bz_r | omega | (constructor <;> omega) | apply_assumption | (apply atF_r; assumption) | fail "no range") (fun c_14 => ?_) (fun c_14 => ?_)
    · refine r_aload_n (pc := 27) dX2_readFigure_27 rfl (by first | rfl | exact isRefV_rf _) ?_
      refine r_dup (pc := 28) dX2_readFigure_28 (by first | rfl | (cases ‹Option Nat› <;> rfl)) ?_
      refine r_getf (pc := 29) dX2_readFigure_29 fX2_53 (by first | assumption | exact isI.gx (by assumption) | exact isI.gc (by assumption) | exact isW.gx (by assumption) | exact isW.gF (by assumption) | exact isW.gT (by assumption) (by omega) | exact isW.gS (by assumption) (by omega) | exact isW.gK (by assumption) (by omega) | exact isW.g1 (by assumption) | exact isW.g2 (by assumption) | exact isW.g3 (by assumption) | exact isI.gx (isW.i0 (by assumption)) | exact isI.gc (isW.i0 (by assumption)) | exact isI.gx (isW.i1 (by assumption)) | exact isI.gc (isW.i1 (by assumption)) | exact isI.gx (isW.i2 (by assumption)) | exact isI.gc (isW.i2 (by assumption)) | exact isI.gx (isW.i3 (by assumption)) | exact isI.gc (isW.i3 (by assumption)) | exact isI.gx (isW.i4 (by assumption)) | exact isI.gc (isW.i4 (by assumption)) | exact isI.gx (isW.i5 (by assumption)) | exact isI.gc (isW.i5 (by assumption)) | exact isR.gx (by assumption) | exact isRd.gx (by assumption) | exact isSp.gx (by assumption) | exact isI.gx (isR.i (by assumption)) | exact isI.gx (isRd.i (by assumption)) | exact isI.gc (isRd.i (by assumption)) | exact isI.gx (isSp.i (by assumption)) | exact isW.gx (isR.w (by assumption)) | exact isW.gF (isR.w (by assumption)) | fail "no such object") (by rfl) ?_
      refine rj_iconst (pc := 32) dX2_readFigure_32 ?_
      refine rj_iadd (pc := 33) dX2_readFigure_33 ?_
      refine rc_putD1 (pc := 34) dX2_readFigure_34 fX2_53 (by assumption) (fun h_34 hW_34 hS_34 => ?_)
      refine r_iload_n (pc := 37) dX2_readFigure_37 rfl ?_
      refine r_ireturn (pc := 38) .int dX2_readFigure_38 rfl (by first | rfl | assumption) ?_
      first | exact Or.inl ⟨⟨by omega, by omega⟩, rfl, hW_34, hS_34⟩ | exact Or.inr ⟨by omega, rfl, D_22, S_22⟩
    · refine r_aload_n (pc := 17) dX2_readFigure_17 rfl (by first | rfl | exact isRefV_rf _) ?_
      refine r_aload_n (pc := 18) dX2_readFigure_18 rfl (by first | rfl | exact isRefV_rf _) ?_
      refine r_getf (pc := 19) dX2_readFigure_19 fX2_53 (by first | assumption | exact isI.gx (by assumption) | exact isI.gc (by assumption) | exact isW.gx (by assumption) | exact isW.gF (by assumption) | exact isW.gT (by assumption) (by omega) | exact isW.gS (by assumption) (by omega) | exact isW.gK (by assumption) (by omega) | exact isW.g1 (by assumption) | exact isW.g2 (by assumption) | exact isW.g3 (by assumption) | exact isI.gx (isW.i0 (by assumption)) | exact isI.gc (isW.i0 (by assumption)) | exact isI.gx (isW.i1 (by assumption)) | exact isI.gc (isW.i1 (by assumption)) | exact isI.gx (isW.i2 (by assumption)) | exact isI.gc (isW.i2 (by assumption)) | exact isI.gx (isW.i3 (by assumption)) | exact isI.gc (isW.i3 (by assumption)) | exact isI.gx (isW.i4 (by assumption)) | exact isI.gc (isW.i4 (by assumption)) | exact isI.gx (isW.i5 (by assumption)) | exact isI.gc (isW.i5 (by assumption)) | exact isR.gx (by assumption) | exact isRd.gx (by assumption) | exact isSp.gx (by assumption) | exact isI.gx (isR.i (by assumption)) | exact isI.gx (isRd.i (by assumption)) | exact isI.gc (isRd.i (by assumption)) | exact isI.gx (isSp.i (by assumption)) | exact isW.gx (isR.w (by assumption)) | exact isW.gF (isR.w (by assumption)) | fail "no such object") (by rfl) ?_
      refine r_callV1 (pc := 22) dX2_readFigure_22 qX2_failAt kX2_56 vX2_failAt (by first | assumption | exact isI.gx (by assumption) | exact isI.gc (by assumption) | exact isW.gx (by assumption) | exact isW.gF (by assumption) | exact isW.gT (by assumption) (by omega) | exact isW.gS (by assumption) (by omega) | exact isW.gK (by assumption) (by omega) | exact isW.g1 (by assumption) | exact isW.g2 (by assumption) | exact isW.g3 (by assumption) | exact isI.gx (isW.i0 (by assumption)) | exact isI.gc (isW.i0 (by assumption)) | exact isI.gx (isW.i1 (by assumption)) | exact isI.gc (isW.i1 (by assumption)) | exact isI.gx (isW.i2 (by assumption)) | exact isI.gc (isW.i2 (by assumption)) | exact isI.gx (isW.i3 (by assumption)) | exact isI.gc (isW.i3 (by assumption)) | exact isI.gx (isW.i4 (by assumption)) | exact isI.gc (isW.i4 (by assumption)) | exact isI.gx (isW.i5 (by assumption)) | exact isI.gc (isW.i5 (by assumption)) | exact isR.gx (by assumption) | exact isRd.gx (by assumption) | exact isSp.gx (by assumption) | exact isI.gx (isR.i (by assumption)) | exact isI.gx (isRd.i (by assumption)) | exact isI.gc (isRd.i (by assumption)) | exact isI.gx (isSp.i (by assumption)) | exact isW.gx (isR.w (by assumption)) | exact isW.gF (isR.w (by assumption)) | fail "no such object") rfl rfl (Nat.le_of_ble_eq_true rfl) (rd_failAt _ hD he p) (fun v_22 h_22 q_22 => ?_)
      obtain ⟨rfl, D_22, S_22⟩ := q_22
      refine rj_iconst (pc := 25) dX2_readFigure_25 ?_
      refine r_ireturn (pc := 26) .int dX2_readFigure_26 rfl (by first | rfl | assumption) ?_
      first | exact Or.inl ⟨⟨by omega, by omega⟩, rfl, hW_34, hS_34⟩ | exact Or.inr ⟨by omega, rfl, D_22, S_22⟩
def rfL (z : Int) (f : Nat → Int) : Nat → Int → Int → Int × Int
  | 0, p, u => (u, p)
  | n + 1, p, u => if 48 ≤ hereC p z f ∧ hereC p z f ≤ 57 then rfL z f n (p + 1) (u * 10 + hereC p z f - 48) else (u, p)
theorem rfL_p {z : Int} {f : Nat → Int} : ∀ (n : Nat) (p u : Int), p ≤ (rfL z f n p u).2 ∧ (rfL z f n p u).2 ≤ p + n
  | 0, p, u => by unfold rfL; dsimp only; omega
  | n + 1, p, u => by
    unfold rfL
    have y := rfL_p (z := z) (f := f) n (p + 1) (u * 10 + hereC p z f - 48)
    split
    · omega
    · dsimp only; omega
set_option maxHeartbeats 4000000 in
set_option maxRecDepth 100000 in
theorem L_readFigures {G : mG} {l : Launch} (d : Nat) {a : Nat} {e o z : Int} {f : Nat → Int} (he : InR e) (ho : InR o) (hz : InR z) (hf : ∀ q, InR (f q)) {m : Nat} (hm : m ≤ 10) {Q : Option Value → mH → Prop} : ∀ (n t : Nat) (p u : Int) (h : mH), isRd h a p e o z f → t + n = m → 0 ≤ p ∧ p + n ≤ 1000 → (∀ h' (t' : Nat), isRd h' a (rfL z f n p u).2 e o z f → (t' : Int) = t + ((rfL z f n p u).2 - p) → Same (dBlk a) h h' → RUN G l (d + 1) mX2_readFigures 56 [some (.ref a), some (.int (J (m : Int))), some (.int (J (rfL z f n p u).1)), some (.int (J (t' : Int)))] [] h' Q) → RUN G l (d + 1) mX2_readFigures 4 [some (.ref a), some (.int (J (m : Int))), some (.int (J u)), some (.int (J (t : Int)))] [] h Q := by
  intro n
  induction n with
  | zero =>
    intro t p u h hD ht hp K
    refine r_iload_n (pc := 4) dX2_readFigures_4 rfl ?_
    refine r_iload_n (pc := 5) dX2_readFigures_5 rfl ?_
    refine rj_icmp_ge (pc := 6) (tgt := 56) dX2_readFigures_6 (by decide) (by first | exact b01_r | exact bz_r | omega | (constructor <;> omega) | apply_assumption | (apply atF_r; assumption) | fail "no range") (by first | exact b01_r | exact bz_r | omega | (constructor <;> omega) | apply_assumption | (apply atF_r; assumption) | fail "no range") (fun c_6 => ?_) (fun c_6 => ?_)
    · have y := K h t (by unfold rfL; exact hD) (by unfold rfL; dsimp only; omega) Same.refl
      unfold rfL at y
      exact y
    · exfalso; omega
  | succ n ih =>
    intro t p u h hD ht hp K
    have rh := hereC_r (p := p) (z := z) hf
    refine r_iload_n (pc := 4) dX2_readFigures_4 rfl ?_
    refine r_iload_n (pc := 5) dX2_readFigures_5 rfl ?_
    refine rj_icmp_ge (pc := 6) (tgt := 56) dX2_readFigures_6 (by decide) (by first | exact b01_r | exact bz_r | omega | (constructor <;> omega) | apply_assumption | (apply atF_r; assumption) | fail "no range") (by first | exact b01_r | exact bz_r | omega | (constructor <;> omega) | apply_assumption | (apply atF_r; assumption) | fail "no range") (fun c_6 => ?_) (fun c_6 => ?_)
    · exfalso; omega
    · refine r_aload_n (pc := 9) dX2_readFigures_9 rfl (by first | rfl | exact isRefV_rf _) ?_
      refine r_callV0 (pc := 10) dX2_readFigures_10 qX2_here kX2_34 vX2_here (by first | assumption | exact isI.gx (by assumption) | exact isI.gc (by assumption) | exact isW.gx (by assumption) | exact isW.gF (by assumption) | exact isW.gT (by assumption) (by omega) | exact isW.gS (by assumption) (by omega) | exact isW.gK (by assumption) (by omega) | exact isW.g1 (by assumption) | exact isW.g2 (by assumption) | exact isW.g3 (by assumption) | exact isI.gx (isW.i0 (by assumption)) | exact isI.gc (isW.i0 (by assumption)) | exact isI.gx (isW.i1 (by assumption)) | exact isI.gc (isW.i1 (by assumption)) | exact isI.gx (isW.i2 (by assumption)) | exact isI.gc (isW.i2 (by assumption)) | exact isI.gx (isW.i3 (by assumption)) | exact isI.gc (isW.i3 (by assumption)) | exact isI.gx (isW.i4 (by assumption)) | exact isI.gc (isW.i4 (by assumption)) | exact isI.gx (isW.i5 (by assumption)) | exact isI.gc (isW.i5 (by assumption)) | exact isR.gx (by assumption) | exact isRd.gx (by assumption) | exact isSp.gx (by assumption) | exact isI.gx (isR.i (by assumption)) | exact isI.gx (isRd.i (by assumption)) | exact isI.gc (isRd.i (by assumption)) | exact isI.gx (isSp.i (by assumption)) | exact isW.gx (isR.w (by assumption)) | exact isW.gF (isR.w (by assumption)) | fail "no such object") rfl rfl (Nat.le_of_ble_eq_true rfl) (cd_here _ hD ⟨by omega, by omega⟩ he ho hz hf) (fun v_10 h_10 q_10 => ?_)
      obtain ⟨rfl, rfl⟩ := q_10
      refine rj_bipush (pc := 13) dX2_readFigures_13 (by decide +kernel) ?_
      refine rj_icmp_lt (pc := 15) (tgt := 56) dX2_readFigures_15 (by decide) (by first | exact b01_r | exact bz_r | omega | (constructor <;> omega) | apply_assumption | (apply atF_r; assumption) | fail "no range") (by first | exact b01_r | exact bz_r | omega | (constructor <;> omega) | apply_assumption | (apply atF_r; assumption) | fail "no range") (fun c_15 => ?_) (fun c_15 => ?_)
      · have hcc : ¬ (48 ≤ hereC p z f ∧ hereC p z f ≤ 57) := by omega
        have y := K h_10 t (by rw [rfL, if_neg hcc]; exact hD) (by rw [rfL, if_neg hcc]; dsimp only; omega) Same.refl
        rw [rfL, if_neg hcc] at y
        exact y
      · refine r_aload_n (pc := 18) dX2_readFigures_18 rfl (by first | rfl | exact isRefV_rf _) ?_
        refine r_callV0 (pc := 19) dX2_readFigures_19 qX2_here kX2_34 vX2_here (by first | assumption | exact isI.gx (by assumption) | exact isI.gc (by assumption) | exact isW.gx (by assumption) | exact isW.gF (by assumption) | exact isW.gT (by assumption) (by omega) | exact isW.gS (by assumption) (by omega) | exact isW.gK (by assumption) (by omega) | exact isW.g1 (by assumption) | exact isW.g2 (by assumption) | exact isW.g3 (by assumption) | exact isI.gx (isW.i0 (by assumption)) | exact isI.gc (isW.i0 (by assumption)) | exact isI.gx (isW.i1 (by assumption)) | exact isI.gc (isW.i1 (by assumption)) | exact isI.gx (isW.i2 (by assumption)) | exact isI.gc (isW.i2 (by assumption)) | exact isI.gx (isW.i3 (by assumption)) | exact isI.gc (isW.i3 (by assumption)) | exact isI.gx (isW.i4 (by assumption)) | exact isI.gc (isW.i4 (by assumption)) | exact isI.gx (isW.i5 (by assumption)) | exact isI.gc (isW.i5 (by assumption)) | exact isR.gx (by assumption) | exact isRd.gx (by assumption) | exact isSp.gx (by assumption) | exact isI.gx (isR.i (by assumption)) | exact isI.gx (isRd.i (by assumption)) | exact isI.gc (isRd.i (by assumption)) | exact isI.gx (isSp.i (by assumption)) | exact isW.gx (isR.w (by assumption)) | exact isW.gF (isR.w (by assumption)) | fail "no such object") rfl rfl (Nat.le_of_ble_eq_true rfl) (cd_here _ hD ⟨by omega, by omega⟩ he ho hz hf) (fun v_19 h_19 q_19 => ?_)
        obtain ⟨rfl, rfl⟩ := q_19
        refine rj_bipush (pc := 22) dX2_readFigures_22 (by decide +kernel) ?_
        refine rj_icmp_gt (pc := 24) (tgt := 56) dX2_readFigures_24 (by decide) (by first | exact b01_r | exact bz_r | omega | (constructor <;> omega) | apply_assumption | (apply atF_r; assumption) | fail "no range") (by first | exact b01_r | exact bz_r | omega | (constructor <;> omega) | apply_assumption | (apply atF_r; assumption) | fail "no range") (fun c_24 => ?_) (fun c_24 => ?_)
        · have hcc : ¬ (48 ≤ hereC p z f ∧ hereC p z f ≤ 57) := by omega
          have y := K h_19 t (by rw [rfL, if_neg hcc]; exact hD) (by rw [rfL, if_neg hcc]; dsimp only; omega) Same.refl
          rw [rfL, if_neg hcc] at y
          exact y
        · refine r_iload_n (pc := 27) dX2_readFigures_27 rfl ?_
          refine rj_bipush (pc := 28) dX2_readFigures_28 (by decide +kernel) ?_
          refine rj_imul (pc := 30) dX2_readFigures_30 ?_
          refine r_aload_n (pc := 31) dX2_readFigures_31 rfl (by first | rfl | exact isRefV_rf _) ?_
          refine r_callV0 (pc := 32) dX2_readFigures_32 qX2_here kX2_34 vX2_here (by first | assumption | exact isI.gx (by assumption) | exact isI.gc (by assumption) | exact isW.gx (by assumption) | exact isW.gF (by assumption) | exact isW.gT (by assumption) (by omega) | exact isW.gS (by assumption) (by omega) | exact isW.gK (by assumption) (by omega) | exact isW.g1 (by assumption) | exact isW.g2 (by assumption) | exact isW.g3 (by assumption) | exact isI.gx (isW.i0 (by assumption)) | exact isI.gc (isW.i0 (by assumption)) | exact isI.gx (isW.i1 (by assumption)) | exact isI.gc (isW.i1 (by assumption)) | exact isI.gx (isW.i2 (by assumption)) | exact isI.gc (isW.i2 (by assumption)) | exact isI.gx (isW.i3 (by assumption)) | exact isI.gc (isW.i3 (by assumption)) | exact isI.gx (isW.i4 (by assumption)) | exact isI.gc (isW.i4 (by assumption)) | exact isI.gx (isW.i5 (by assumption)) | exact isI.gc (isW.i5 (by assumption)) | exact isR.gx (by assumption) | exact isRd.gx (by assumption) | exact isSp.gx (by assumption) | exact isI.gx (isR.i (by assumption)) | exact isI.gx (isRd.i (by assumption)) | exact isI.gc (isRd.i (by assumption)) | exact isI.gx (isSp.i (by assumption)) | exact isW.gx (isR.w (by assumption)) | exact isW.gF (isR.w (by assumption)) | fail "no such object") rfl rfl (Nat.le_of_ble_eq_true rfl) (cd_here _ hD ⟨by omega, by omega⟩ he ho hz hf) (fun v_32 h_32 q_32 => ?_)
          obtain ⟨rfl, rfl⟩ := q_32
          refine rj_iadd (pc := 35) dX2_readFigures_35 ?_
          refine rj_bipush (pc := 36) dX2_readFigures_36 (by decide +kernel) ?_
          refine rj_isub (pc := 38) dX2_readFigures_38 ?_
          refine r_istore_n (pc := 39) dX2_readFigures_39 (Nat.le_of_ble_eq_true rfl) ?_
          dsimp only [lsSt, List.set, mLs, mEnt]
          refine r_aload_n (pc := 40) dX2_readFigures_40 rfl (by first | rfl | exact isRefV_rf _) ?_
          refine r_dup (pc := 41) dX2_readFigures_41 (by first | rfl | (cases ‹Option Nat› <;> rfl)) ?_
          refine r_getf (pc := 42) dX2_readFigures_42 fX2_53 (by first | assumption | exact isI.gx (by assumption) | exact isI.gc (by assumption) | exact isW.gx (by assumption) | exact isW.gF (by assumption) | exact isW.gT (by assumption) (by omega) | exact isW.gS (by assumption) (by omega) | exact isW.gK (by assumption) (by omega) | exact isW.g1 (by assumption) | exact isW.g2 (by assumption) | exact isW.g3 (by assumption) | exact isI.gx (isW.i0 (by assumption)) | exact isI.gc (isW.i0 (by assumption)) | exact isI.gx (isW.i1 (by assumption)) | exact isI.gc (isW.i1 (by assumption)) | exact isI.gx (isW.i2 (by assumption)) | exact isI.gc (isW.i2 (by assumption)) | exact isI.gx (isW.i3 (by assumption)) | exact isI.gc (isW.i3 (by assumption)) | exact isI.gx (isW.i4 (by assumption)) | exact isI.gc (isW.i4 (by assumption)) | exact isI.gx (isW.i5 (by assumption)) | exact isI.gc (isW.i5 (by assumption)) | exact isR.gx (by assumption) | exact isRd.gx (by assumption) | exact isSp.gx (by assumption) | exact isI.gx (isR.i (by assumption)) | exact isI.gx (isRd.i (by assumption)) | exact isI.gc (isRd.i (by assumption)) | exact isI.gx (isSp.i (by assumption)) | exact isW.gx (isR.w (by assumption)) | exact isW.gF (isR.w (by assumption)) | fail "no such object") (by rfl) ?_
          refine rj_iconst (pc := 45) dX2_readFigures_45 ?_
          refine rj_iadd (pc := 46) dX2_readFigures_46 ?_
          refine rc_putD1 (pc := 47) dX2_readFigures_47 fX2_53 (by assumption) (fun h_47 hW_47 hS_47 => ?_)
          refine rj_iinc (pc := 50) dX2_readFigures_50 (Nat.le_of_ble_eq_true rfl) rfl ?_
          dsimp only [lsSt, List.set, mLs, mEnt]
          refine r_goto (pc := 53) (tgt := 4) dX2_readFigures_53 (by decide) ?_
          have hcc : 48 ≤ hereC p z f ∧ hereC p z f ≤ 57 := ⟨by omega, by omega⟩
          have y := ih (t + 1) (p + 1) (u * 10 + hereC p z f - 48) h_47 hW_47 (by omega) (by omega) (fun h' t' a1 a2 a3 => by
            have y := K h' t' (by rw [rfL, if_pos hcc]; exact a1) (by rw [rfL, if_pos hcc]; omega) (hS_47.trans a3)
            rw [rfL, if_pos hcc] at y
            exact y)
          rw [show ((t + 1 : Nat) : Int) = (t : Int) + 1 by omega] at y
          exact y
set_option maxHeartbeats 4000000 in
set_option maxRecDepth 100000 in
theorem rd_figures {G : mG} {l : Launch} (d : Nat) {h : mH} {a : Nat} {p e o z : Int} {f : Nat → Int} (hD : isRd h a p e o z f) (hp : InR p) (he : InR e) (ho : InR o) (hz : InR z) (hf : ∀ q, InR (f q)) (hp0 : 0 ≤ p ∧ p + 20 ≤ 1000) {m : Nat} (hm : 1 ≤ m ∧ m ≤ 10) : RUNM G l (d + 1) mX2_readFigures [.ref a, .int (J (m : Int))] h (fun v h' => v = some (.int (J (rfL z f m p 0).1)) ∧ ((p < (rfL z f m p 0).2 ∧ isRd h' a (rfL z f m p 0).2 e o z f) ∨ ((rfL z f m p 0).2 = p ∧ isRd h' a z (ftE e p) o z f)) ∧ Same (dBlk a) h h') := by
  refine RUNM.of (by decide +kernel) (Nat.le_of_ble_eq_true rfl) ?_
  have rp := rfL_p (z := z) (f := f) m p 0
  refine rj_iconst (pc := 0) dX2_readFigures_0 ?_
  refine r_istore_n (pc := 1) dX2_readFigures_1 (Nat.le_of_ble_eq_true rfl) ?_
  dsimp only [lsSt, List.set, mLs, mEnt]
  refine rj_iconst (pc := 2) dX2_readFigures_2 ?_
  refine r_istore_n (pc := 3) dX2_readFigures_3 (Nat.le_of_ble_eq_true rfl) ?_
  dsimp only [lsSt, List.set, mLs, mEnt]
  refine L_readFigures d he ho hz hf hm.2 m 0 p 0 h hD (by omega) (by omega) (fun h' t' a1 a2 a3 => ?_)
  refine r_iload_n (pc := 56) dX2_readFigures_56 rfl ?_
  refine rj_if_ne (pc := 57) (tgt := 68) dX2_readFigures_57 (by decide) (by first | exact b01_r | exact bz_r | omega | (constructor <;> omega) | apply_assumption | (apply atF_r; assumption) | fail "no range") (fun c_57 => ?_) (fun c_57 => ?_)
  · try simp only [b01_0, bz_0, Classical.not_not] at c_57
    refine r_iload_n (pc := 68) dX2_readFigures_68 rfl ?_
    refine r_ireturn (pc := 69) .int dX2_readFigures_69 rfl (by first | rfl | assumption) ?_
    first | exact ⟨rfl, Or.inl ⟨by omega, a1⟩, a3⟩ | exact ⟨rfl, Or.inr ⟨by omega, by rw [show (rfL z f m p 0).2 = p by omega] at D_65; exact D_65⟩, a3.trans S_65⟩
  · try simp only [b01_0, bz_0, Classical.not_not] at c_57
    refine r_aload_n (pc := 60) dX2_readFigures_60 rfl (by first | rfl | exact isRefV_rf _) ?_
    refine r_aload_n (pc := 61) dX2_readFigures_61 rfl (by first | rfl | exact isRefV_rf _) ?_
    refine r_getf (pc := 62) dX2_readFigures_62 fX2_53 (by first | assumption | exact isI.gx (by assumption) | exact isI.gc (by assumption) | exact isW.gx (by assumption) | exact isW.gF (by assumption) | exact isW.gT (by assumption) (by omega) | exact isW.gS (by assumption) (by omega) | exact isW.gK (by assumption) (by omega) | exact isW.g1 (by assumption) | exact isW.g2 (by assumption) | exact isW.g3 (by assumption) | exact isI.gx (isW.i0 (by assumption)) | exact isI.gc (isW.i0 (by assumption)) | exact isI.gx (isW.i1 (by assumption)) | exact isI.gc (isW.i1 (by assumption)) | exact isI.gx (isW.i2 (by assumption)) | exact isI.gc (isW.i2 (by assumption)) | exact isI.gx (isW.i3 (by assumption)) | exact isI.gc (isW.i3 (by assumption)) | exact isI.gx (isW.i4 (by assumption)) | exact isI.gc (isW.i4 (by assumption)) | exact isI.gx (isW.i5 (by assumption)) | exact isI.gc (isW.i5 (by assumption)) | exact isR.gx (by assumption) | exact isRd.gx (by assumption) | exact isSp.gx (by assumption) | exact isI.gx (isR.i (by assumption)) | exact isI.gx (isRd.i (by assumption)) | exact isI.gc (isRd.i (by assumption)) | exact isI.gx (isSp.i (by assumption)) | exact isW.gx (isR.w (by assumption)) | exact isW.gF (isR.w (by assumption)) | fail "no such object") (by rfl) ?_
    refine r_callV1 (pc := 65) dX2_readFigures_65 qX2_failAt kX2_56 vX2_failAt (by first | assumption | exact isI.gx (by assumption) | exact isI.gc (by assumption) | exact isW.gx (by assumption) | exact isW.gF (by assumption) | exact isW.gT (by assumption) (by omega) | exact isW.gS (by assumption) (by omega) | exact isW.gK (by assumption) (by omega) | exact isW.g1 (by assumption) | exact isW.g2 (by assumption) | exact isW.g3 (by assumption) | exact isI.gx (isW.i0 (by assumption)) | exact isI.gc (isW.i0 (by assumption)) | exact isI.gx (isW.i1 (by assumption)) | exact isI.gc (isW.i1 (by assumption)) | exact isI.gx (isW.i2 (by assumption)) | exact isI.gc (isW.i2 (by assumption)) | exact isI.gx (isW.i3 (by assumption)) | exact isI.gc (isW.i3 (by assumption)) | exact isI.gx (isW.i4 (by assumption)) | exact isI.gc (isW.i4 (by assumption)) | exact isI.gx (isW.i5 (by assumption)) | exact isI.gc (isW.i5 (by assumption)) | exact isR.gx (by assumption) | exact isRd.gx (by assumption) | exact isSp.gx (by assumption) | exact isI.gx (isR.i (by assumption)) | exact isI.gx (isRd.i (by assumption)) | exact isI.gc (isRd.i (by assumption)) | exact isI.gx (isSp.i (by assumption)) | exact isW.gx (isR.w (by assumption)) | exact isW.gF (isR.w (by assumption)) | fail "no such object") rfl rfl (Nat.le_of_ble_eq_true rfl) (rd_failAt _ a1 he (rfL z f m p 0).2) (fun v_65 h_65 q_65 => ?_)
    obtain ⟨rfl, D_65, S_65⟩ := q_65
    refine r_iload_n (pc := 68) dX2_readFigures_68 rfl ?_
    refine r_ireturn (pc := 69) .int dX2_readFigures_69 rfl (by first | rfl | assumption) ?_
    first | exact ⟨rfl, Or.inl ⟨by omega, a1⟩, a3⟩ | exact ⟨rfl, Or.inr ⟨by omega, by rw [show (rfL z f m p 0).2 = p by omega] at D_65; exact D_65⟩, a3.trans S_65⟩
def mnP (p z : Int) (f : Nat → Int) : Int := if hereC p z f = 45 then p + 1 else p
def rvV (p z : Int) (f : Nat → Int) : Int := if hereC p z f = 45 then -(rfL z f 5 (mnP p z f) 0).1 else (rfL z f 5 (mnP p z f) 0).1
set_option maxHeartbeats 4000000 in
set_option maxRecDepth 100000 in
theorem rd_value {G : mG} {l : Launch} (d : Nat) {h : mH} {a : Nat} {p e o z : Int} {f : Nat → Int} (hD : isRd h a p e o z f) (hp : InR p) (he : InR e) (ho : InR o) (hz : InR z) (hf : ∀ q, InR (f q)) (hp0 : 0 ≤ p ∧ p + 30 ≤ 1000) : RUNM G l (d + 2) mX2_readValue [.ref a] h (fun v h' => v = some (.int (J (rvV p z f))) ∧ ((mnP p z f < (rfL z f 5 (mnP p z f) 0).2 ∧ isRd h' a (rfL z f 5 (mnP p z f) 0).2 e o z f) ∨ ((rfL z f 5 (mnP p z f) 0).2 = mnP p z f ∧ isRd h' a z (ftE e (mnP p z f)) o z f)) ∧ Same (dBlk a) h h') := by
  refine RUNM.of (by decide +kernel) (Nat.le_of_ble_eq_true rfl) ?_
  refine r_aload_n (pc := 0) dX2_readValue_0 rfl (by first | rfl | exact isRefV_rf _) ?_
  refine r_callV0 (pc := 1) dX2_readValue_1 qX2_here kX2_34 vX2_here (by first | assumption | exact isI.gx (by assumption) | exact isI.gc (by assumption) | exact isW.gx (by assumption) | exact isW.gF (by assumption) | exact isW.gT (by assumption) (by omega) | exact isW.gS (by assumption) (by omega) | exact isW.gK (by assumption) (by omega) | exact isW.g1 (by assumption) | exact isW.g2 (by assumption) | exact isW.g3 (by assumption) | exact isI.gx (isW.i0 (by assumption)) | exact isI.gc (isW.i0 (by assumption)) | exact isI.gx (isW.i1 (by assumption)) | exact isI.gc (isW.i1 (by assumption)) | exact isI.gx (isW.i2 (by assumption)) | exact isI.gc (isW.i2 (by assumption)) | exact isI.gx (isW.i3 (by assumption)) | exact isI.gc (isW.i3 (by assumption)) | exact isI.gx (isW.i4 (by assumption)) | exact isI.gc (isW.i4 (by assumption)) | exact isI.gx (isW.i5 (by assumption)) | exact isI.gc (isW.i5 (by assumption)) | exact isR.gx (by assumption) | exact isRd.gx (by assumption) | exact isSp.gx (by assumption) | exact isI.gx (isR.i (by assumption)) | exact isI.gx (isRd.i (by assumption)) | exact isI.gc (isRd.i (by assumption)) | exact isI.gx (isSp.i (by assumption)) | exact isW.gx (isR.w (by assumption)) | exact isW.gF (isR.w (by assumption)) | fail "no such object") rfl rfl (Nat.le_of_ble_eq_true rfl) (cd_here _ hD hp he ho hz hf) (fun v_1 h_1 q_1 => ?_)
  obtain ⟨rfl, rfl⟩ := q_1
  have rh := hereC_r (p := p) (z := z) hf
  refine rj_bipush (pc := 4) dX2_readValue_4 (by decide +kernel) ?_
  refine rj_icmp_ne (pc := 6) (tgt := 13) dX2_readValue_6 (by decide) (by first | exact b01_r | exact bz_r | omega | (constructor <;> omega) | apply_assumption | (apply atF_r; assumption) | fail "no range") (by first | exact b01_r | exact bz_r | omega | (constructor <;> omega) | apply_assumption | (apply atF_r; assumption) | fail "no range") (fun c_6 => ?_) (fun c_6 => ?_)
  · refine rj_iconst (pc := 13) dX2_readValue_13 ?_
    refine r_istore_n (pc := 14) dX2_readValue_14 (Nat.le_of_ble_eq_true rfl) ?_
    dsimp only [lsSt, List.set, mLs, mEnt]
    refine r_iload_n (pc := 15) dX2_readValue_15 rfl ?_
    refine rj_if_eq (pc := 16) (tgt := 29) dX2_readValue_16 (by decide) (by first | exact b01_r | exact bz_r | omega | (constructor <;> omega) | apply_assumption | (apply atF_r; assumption) | fail "no range") (fun c_16 => ?_) (fun c_16 => ?_)
    · try simp only [b01_0, bz_0, Classical.not_not] at c_16
      refine r_aload_n (pc := 29) dX2_readValue_29 rfl (by first | rfl | exact isRefV_rf _) ?_
      refine rj_iconst (pc := 30) dX2_readValue_30 ?_
      refine r_callV1 (pc := 31) dX2_readValue_31 qX2_readFigures kX2_100 vX2_readFigures (by first | assumption | exact isI.gx (by assumption) | exact isI.gc (by assumption) | exact isW.gx (by assumption) | exact isW.gF (by assumption) | exact isW.gT (by assumption) (by omega) | exact isW.gS (by assumption) (by omega) | exact isW.gK (by assumption) (by omega) | exact isW.g1 (by assumption) | exact isW.g2 (by assumption) | exact isW.g3 (by assumption) | exact isI.gx (isW.i0 (by assumption)) | exact isI.gc (isW.i0 (by assumption)) | exact isI.gx (isW.i1 (by assumption)) | exact isI.gc (isW.i1 (by assumption)) | exact isI.gx (isW.i2 (by assumption)) | exact isI.gc (isW.i2 (by assumption)) | exact isI.gx (isW.i3 (by assumption)) | exact isI.gc (isW.i3 (by assumption)) | exact isI.gx (isW.i4 (by assumption)) | exact isI.gc (isW.i4 (by assumption)) | exact isI.gx (isW.i5 (by assumption)) | exact isI.gc (isW.i5 (by assumption)) | exact isR.gx (by assumption) | exact isRd.gx (by assumption) | exact isSp.gx (by assumption) | exact isI.gx (isR.i (by assumption)) | exact isI.gx (isRd.i (by assumption)) | exact isI.gc (isRd.i (by assumption)) | exact isI.gx (isSp.i (by assumption)) | exact isW.gx (isR.w (by assumption)) | exact isW.gF (isR.w (by assumption)) | fail "no such object") rfl rfl (Nat.le_of_ble_eq_true rfl) (rd_figures _ hD ⟨by omega, by omega⟩ he ho hz hf (by omega) (m := 5) (by omega)) (fun v_31 h_31 q_31 => ?_)
      obtain ⟨rfl, D_31, S_31⟩ := q_31
      refine r_istore_n (pc := 34) dX2_readValue_34 (Nat.le_of_ble_eq_true rfl) ?_
      dsimp only [lsSt, List.set, mLs, mEnt]
      refine r_iload_n (pc := 35) dX2_readValue_35 rfl ?_
      refine rj_if_eq (pc := 36) (tgt := 44) dX2_readValue_36 (by decide) (by first | exact b01_r | exact bz_r | omega | (constructor <;> omega) | apply_assumption | (apply atF_r; assumption) | fail "no range") (fun c_36 => ?_) (fun c_36 => ?_)
      · try simp only [b01_0, bz_0, Classical.not_not] at c_36
        refine r_iload_n (pc := 44) dX2_readValue_44 rfl ?_
        refine r_ireturn (pc := 45) .int dX2_readValue_45 rfl (by first | rfl | assumption) ?_
        first | (have em : mnP p z f = p + 1 := (by unfold mnP; rw [if_pos (by assumption)]); rw [em]; exact ⟨by unfold rvV; rw [if_pos (by assumption), em], D_31, hS_26.trans S_31⟩) | (have em : mnP p z f = p := (by unfold mnP; rw [if_neg (by assumption)]); rw [em]; exact ⟨by unfold rvV; rw [if_neg (by assumption), em], D_31, S_31⟩)
      · try simp only [b01_0, bz_0, Classical.not_not] at c_36
        all_goals (first | exact absurd trivial ‹¬ True› | (exfalso; omega))
    · try simp only [b01_0, bz_0, Classical.not_not] at c_16
      all_goals (first | exact absurd trivial ‹¬ True› | (exfalso; omega))
  · refine rj_iconst (pc := 9) dX2_readValue_9 ?_
    refine r_goto (pc := 10) (tgt := 14) dX2_readValue_10 (by decide) ?_
    refine r_istore_n (pc := 14) dX2_readValue_14 (Nat.le_of_ble_eq_true rfl) ?_
    dsimp only [lsSt, List.set, mLs, mEnt]
    refine r_iload_n (pc := 15) dX2_readValue_15 rfl ?_
    refine rj_if_eq (pc := 16) (tgt := 29) dX2_readValue_16 (by decide) (by first | exact b01_r | exact bz_r | omega | (constructor <;> omega) | apply_assumption | (apply atF_r; assumption) | fail "no range") (fun c_16 => ?_) (fun c_16 => ?_)
    · try simp only [b01_0, bz_0, Classical.not_not] at c_16
      all_goals (first | exact absurd trivial ‹¬ True› | (exfalso; omega))
    · try simp only [b01_0, bz_0, Classical.not_not] at c_16
      refine r_aload_n (pc := 19) dX2_readValue_19 rfl (by first | rfl | exact isRefV_rf _) ?_
      refine r_dup (pc := 20) dX2_readValue_20 (by first | rfl | (cases ‹Option Nat› <;> rfl)) ?_
      refine r_getf (pc := 21) dX2_readValue_21 fX2_53 (by first | assumption | exact isI.gx (by assumption) | exact isI.gc (by assumption) | exact isW.gx (by assumption) | exact isW.gF (by assumption) | exact isW.gT (by assumption) (by omega) | exact isW.gS (by assumption) (by omega) | exact isW.gK (by assumption) (by omega) | exact isW.g1 (by assumption) | exact isW.g2 (by assumption) | exact isW.g3 (by assumption) | exact isI.gx (isW.i0 (by assumption)) | exact isI.gc (isW.i0 (by assumption)) | exact isI.gx (isW.i1 (by assumption)) | exact isI.gc (isW.i1 (by assumption)) | exact isI.gx (isW.i2 (by assumption)) | exact isI.gc (isW.i2 (by assumption)) | exact isI.gx (isW.i3 (by assumption)) | exact isI.gc (isW.i3 (by assumption)) | exact isI.gx (isW.i4 (by assumption)) | exact isI.gc (isW.i4 (by assumption)) | exact isI.gx (isW.i5 (by assumption)) | exact isI.gc (isW.i5 (by assumption)) | exact isR.gx (by assumption) | exact isRd.gx (by assumption) | exact isSp.gx (by assumption) | exact isI.gx (isR.i (by assumption)) | exact isI.gx (isRd.i (by assumption)) | exact isI.gc (isRd.i (by assumption)) | exact isI.gx (isSp.i (by assumption)) | exact isW.gx (isR.w (by assumption)) | exact isW.gF (isR.w (by assumption)) | fail "no such object") (by rfl) ?_
      refine rj_iconst (pc := 24) dX2_readValue_24 ?_
      refine rj_iadd (pc := 25) dX2_readValue_25 ?_
      refine rc_putD1 (pc := 26) dX2_readValue_26 fX2_53 (by assumption) (fun h_26 hW_26 hS_26 => ?_)
      refine r_aload_n (pc := 29) dX2_readValue_29 rfl (by first | rfl | exact isRefV_rf _) ?_
      refine rj_iconst (pc := 30) dX2_readValue_30 ?_
      refine r_callV1 (pc := 31) dX2_readValue_31 qX2_readFigures kX2_100 vX2_readFigures (by first | assumption | exact isI.gx (by assumption) | exact isI.gc (by assumption) | exact isW.gx (by assumption) | exact isW.gF (by assumption) | exact isW.gT (by assumption) (by omega) | exact isW.gS (by assumption) (by omega) | exact isW.gK (by assumption) (by omega) | exact isW.g1 (by assumption) | exact isW.g2 (by assumption) | exact isW.g3 (by assumption) | exact isI.gx (isW.i0 (by assumption)) | exact isI.gc (isW.i0 (by assumption)) | exact isI.gx (isW.i1 (by assumption)) | exact isI.gc (isW.i1 (by assumption)) | exact isI.gx (isW.i2 (by assumption)) | exact isI.gc (isW.i2 (by assumption)) | exact isI.gx (isW.i3 (by assumption)) | exact isI.gc (isW.i3 (by assumption)) | exact isI.gx (isW.i4 (by assumption)) | exact isI.gc (isW.i4 (by assumption)) | exact isI.gx (isW.i5 (by assumption)) | exact isI.gc (isW.i5 (by assumption)) | exact isR.gx (by assumption) | exact isRd.gx (by assumption) | exact isSp.gx (by assumption) | exact isI.gx (isR.i (by assumption)) | exact isI.gx (isRd.i (by assumption)) | exact isI.gc (isRd.i (by assumption)) | exact isI.gx (isSp.i (by assumption)) | exact isW.gx (isR.w (by assumption)) | exact isW.gF (isR.w (by assumption)) | fail "no such object") rfl rfl (Nat.le_of_ble_eq_true rfl) (rd_figures _ hW_26 ⟨by omega, by omega⟩ he ho hz hf (by omega) (m := 5) (by omega)) (fun v_31 h_31 q_31 => ?_)
      obtain ⟨rfl, D_31, S_31⟩ := q_31
      refine r_istore_n (pc := 34) dX2_readValue_34 (Nat.le_of_ble_eq_true rfl) ?_
      dsimp only [lsSt, List.set, mLs, mEnt]
      refine r_iload_n (pc := 35) dX2_readValue_35 rfl ?_
      refine rj_if_eq (pc := 36) (tgt := 44) dX2_readValue_36 (by decide) (by first | exact b01_r | exact bz_r | omega | (constructor <;> omega) | apply_assumption | (apply atF_r; assumption) | fail "no range") (fun c_36 => ?_) (fun c_36 => ?_)
      · try simp only [b01_0, bz_0, Classical.not_not] at c_36
        all_goals (first | exact absurd trivial ‹¬ True› | (exfalso; omega))
      · try simp only [b01_0, bz_0, Classical.not_not] at c_36
        refine r_iload_n (pc := 39) dX2_readValue_39 rfl ?_
        refine rj_ineg (pc := 40) dX2_readValue_40 ?_
        refine r_goto (pc := 41) (tgt := 45) dX2_readValue_41 (by decide) ?_
        refine r_ireturn (pc := 45) .int dX2_readValue_45 rfl (by first | rfl | assumption) ?_
        first | (have em : mnP p z f = p + 1 := (by unfold mnP; rw [if_pos (by assumption)]); rw [em]; exact ⟨by unfold rvV; rw [if_pos (by assumption), em], D_31, hS_26.trans S_31⟩) | (have em : mnP p z f = p := (by unfold mnP; rw [if_neg (by assumption)]); rw [em]; exact ⟨by unfold rvV; rw [if_neg (by assumption), em], D_31, S_31⟩)
theorem ftE_i {e p : Int} (hp : 0 ≤ p) : ftE (ftE e p) p = ftE e p := by
  unfold ftE
  by_cases h : e < 0
  · rw [if_pos h, if_neg (by omega)]
  · rw [if_neg h, if_neg h]
set_option maxHeartbeats 4000000 in
set_option maxRecDepth 100000 in
theorem rd_faultNumber {G : mG} {l : Launch} (d : Nat) {h : mH} {a : Nat} {p e o z : Int} {f : Nat → Int} (hD : isRd h a p e o z f) (hp : InR p) (he : InR e) (ho : InR o) (hz : InR z) (hf : ∀ q, InR (f q)) (hp0 : 0 ≤ p ∧ p + 20 ≤ 1000) (hr0 : InR (rfL z f 2 p 0).1) : RUNM G l (d + 2) mX2_readFaultNumber [.ref a] h (fun v h' => v = some (.int (J (rfL z f 2 p 0).1)) ∧ ((p < (rfL z f 2 p 0).2 ∧ ¬ (rfL z f 2 p 0).1 = 0 ∧ isRd h' a (rfL z f 2 p 0).2 e o z f) ∨ (((rfL z f 2 p 0).2 = p ∨ (rfL z f 2 p 0).1 = 0) ∧ isRd h' a z (ftE e p) o z f)) ∧ Same (dBlk a) h h') := by
  refine RUNM.of (by decide +kernel) (Nat.le_of_ble_eq_true rfl) ?_
  refine r_aload_n (pc := 0) dX2_readFaultNumber_0 rfl (by first | rfl | exact isRefV_rf _) ?_
  refine r_getf (pc := 1) dX2_readFaultNumber_1 fX2_53 (by first | assumption | exact isI.gx (by assumption) | exact isI.gc (by assumption) | exact isW.gx (by assumption) | exact isW.gF (by assumption) | exact isW.gT (by assumption) (by omega) | exact isW.gS (by assumption) (by omega) | exact isW.gK (by assumption) (by omega) | exact isW.g1 (by assumption) | exact isW.g2 (by assumption) | exact isW.g3 (by assumption) | exact isI.gx (isW.i0 (by assumption)) | exact isI.gc (isW.i0 (by assumption)) | exact isI.gx (isW.i1 (by assumption)) | exact isI.gc (isW.i1 (by assumption)) | exact isI.gx (isW.i2 (by assumption)) | exact isI.gc (isW.i2 (by assumption)) | exact isI.gx (isW.i3 (by assumption)) | exact isI.gc (isW.i3 (by assumption)) | exact isI.gx (isW.i4 (by assumption)) | exact isI.gc (isW.i4 (by assumption)) | exact isI.gx (isW.i5 (by assumption)) | exact isI.gc (isW.i5 (by assumption)) | exact isR.gx (by assumption) | exact isRd.gx (by assumption) | exact isSp.gx (by assumption) | exact isI.gx (isR.i (by assumption)) | exact isI.gx (isRd.i (by assumption)) | exact isI.gc (isRd.i (by assumption)) | exact isI.gx (isSp.i (by assumption)) | exact isW.gx (isR.w (by assumption)) | exact isW.gF (isR.w (by assumption)) | fail "no such object") (by rfl) ?_
  refine r_istore_n (pc := 4) dX2_readFaultNumber_4 (Nat.le_of_ble_eq_true rfl) ?_
  dsimp only [lsSt, List.set, mLs, mEnt]
  refine r_aload_n (pc := 5) dX2_readFaultNumber_5 rfl (by first | rfl | exact isRefV_rf _) ?_
  refine rj_iconst (pc := 6) dX2_readFaultNumber_6 ?_
  refine r_callV1 (pc := 7) dX2_readFaultNumber_7 qX2_readFigures kX2_100 vX2_readFigures (by first | assumption | exact isI.gx (by assumption) | exact isI.gc (by assumption) | exact isW.gx (by assumption) | exact isW.gF (by assumption) | exact isW.gT (by assumption) (by omega) | exact isW.gS (by assumption) (by omega) | exact isW.gK (by assumption) (by omega) | exact isW.g1 (by assumption) | exact isW.g2 (by assumption) | exact isW.g3 (by assumption) | exact isI.gx (isW.i0 (by assumption)) | exact isI.gc (isW.i0 (by assumption)) | exact isI.gx (isW.i1 (by assumption)) | exact isI.gc (isW.i1 (by assumption)) | exact isI.gx (isW.i2 (by assumption)) | exact isI.gc (isW.i2 (by assumption)) | exact isI.gx (isW.i3 (by assumption)) | exact isI.gc (isW.i3 (by assumption)) | exact isI.gx (isW.i4 (by assumption)) | exact isI.gc (isW.i4 (by assumption)) | exact isI.gx (isW.i5 (by assumption)) | exact isI.gc (isW.i5 (by assumption)) | exact isR.gx (by assumption) | exact isRd.gx (by assumption) | exact isSp.gx (by assumption) | exact isI.gx (isR.i (by assumption)) | exact isI.gx (isRd.i (by assumption)) | exact isI.gc (isRd.i (by assumption)) | exact isI.gx (isSp.i (by assumption)) | exact isW.gx (isR.w (by assumption)) | exact isW.gF (isR.w (by assumption)) | fail "no such object") rfl rfl (Nat.le_of_ble_eq_true rfl) (rd_figures _ hD hp he ho hz hf hp0 (m := 2) (by omega)) (fun v_7 h_7 q_7 => ?_)
  obtain ⟨rfl, D_7, S_7⟩ := q_7
  rcases D_7 with ⟨b_7, D_7⟩ | ⟨b_7, D_7⟩
  · skip
    refine r_istore_n (pc := 10) dX2_readFaultNumber_10 (Nat.le_of_ble_eq_true rfl) ?_
    dsimp only [lsSt, List.set, mLs, mEnt]
    refine r_iload_n (pc := 11) dX2_readFaultNumber_11 rfl ?_
    refine rj_if_ne (pc := 12) (tgt := 20) dX2_readFaultNumber_12 (by decide) (by first | exact b01_r | exact bz_r | omega | (constructor <;> omega) | apply_assumption | (apply atF_r; assumption) | fail "no range") (fun c_12 => ?_) (fun c_12 => ?_)
    · try simp only [b01_0, bz_0, Classical.not_not] at c_12
      refine r_iload_n (pc := 20) dX2_readFaultNumber_20 rfl ?_
      refine r_ireturn (pc := 21) .int dX2_readFaultNumber_21 rfl (by first | rfl | assumption) ?_
      first | exact ⟨rfl, Or.inl ⟨b_7, c_12, D_7⟩, S_7⟩ | exact ⟨rfl, Or.inr ⟨Or.inl b_7, D_7⟩, S_7⟩ | exact ⟨rfl, Or.inr ⟨Or.inr c_12, D_17⟩, S_7.trans S_17⟩ | exact ⟨rfl, Or.inr ⟨Or.inr (by omega), D_17⟩, S_7.trans S_17⟩
    · try simp only [b01_0, bz_0, Classical.not_not] at c_12
      refine r_aload_n (pc := 15) dX2_readFaultNumber_15 rfl (by first | rfl | exact isRefV_rf _) ?_
      refine r_iload_n (pc := 16) dX2_readFaultNumber_16 rfl ?_
      refine r_callV1 (pc := 17) dX2_readFaultNumber_17 qX2_failAt kX2_56 vX2_failAt (by first | assumption | exact isI.gx (by assumption) | exact isI.gc (by assumption) | exact isW.gx (by assumption) | exact isW.gF (by assumption) | exact isW.gT (by assumption) (by omega) | exact isW.gS (by assumption) (by omega) | exact isW.gK (by assumption) (by omega) | exact isW.g1 (by assumption) | exact isW.g2 (by assumption) | exact isW.g3 (by assumption) | exact isI.gx (isW.i0 (by assumption)) | exact isI.gc (isW.i0 (by assumption)) | exact isI.gx (isW.i1 (by assumption)) | exact isI.gc (isW.i1 (by assumption)) | exact isI.gx (isW.i2 (by assumption)) | exact isI.gc (isW.i2 (by assumption)) | exact isI.gx (isW.i3 (by assumption)) | exact isI.gc (isW.i3 (by assumption)) | exact isI.gx (isW.i4 (by assumption)) | exact isI.gc (isW.i4 (by assumption)) | exact isI.gx (isW.i5 (by assumption)) | exact isI.gc (isW.i5 (by assumption)) | exact isR.gx (by assumption) | exact isRd.gx (by assumption) | exact isSp.gx (by assumption) | exact isI.gx (isR.i (by assumption)) | exact isI.gx (isRd.i (by assumption)) | exact isI.gc (isRd.i (by assumption)) | exact isI.gx (isSp.i (by assumption)) | exact isW.gx (isR.w (by assumption)) | exact isW.gF (isR.w (by assumption)) | fail "no such object") rfl rfl (Nat.le_of_ble_eq_true rfl) (rd_failAt _ D_7 he p) (fun v_17 h_17 q_17 => ?_)
      obtain ⟨rfl, D_17, S_17⟩ := q_17
      refine r_iload_n (pc := 20) dX2_readFaultNumber_20 rfl ?_
      refine r_ireturn (pc := 21) .int dX2_readFaultNumber_21 rfl (by first | rfl | assumption) ?_
      first | exact ⟨rfl, Or.inl ⟨b_7, c_12, D_7⟩, S_7⟩ | exact ⟨rfl, Or.inr ⟨Or.inl b_7, D_7⟩, S_7⟩ | exact ⟨rfl, Or.inr ⟨Or.inr c_12, D_17⟩, S_7.trans S_17⟩ | exact ⟨rfl, Or.inr ⟨Or.inr (by omega), D_17⟩, S_7.trans S_17⟩
  · skip
    refine r_istore_n (pc := 10) dX2_readFaultNumber_10 (Nat.le_of_ble_eq_true rfl) ?_
    dsimp only [lsSt, List.set, mLs, mEnt]
    refine r_iload_n (pc := 11) dX2_readFaultNumber_11 rfl ?_
    refine rj_if_ne (pc := 12) (tgt := 20) dX2_readFaultNumber_12 (by decide) (by first | exact b01_r | exact bz_r | omega | (constructor <;> omega) | apply_assumption | (apply atF_r; assumption) | fail "no range") (fun c_12 => ?_) (fun c_12 => ?_)
    · try simp only [b01_0, bz_0, Classical.not_not] at c_12
      refine r_iload_n (pc := 20) dX2_readFaultNumber_20 rfl ?_
      refine r_ireturn (pc := 21) .int dX2_readFaultNumber_21 rfl (by first | rfl | assumption) ?_
      first | exact ⟨rfl, Or.inl ⟨b_7, c_12, D_7⟩, S_7⟩ | exact ⟨rfl, Or.inr ⟨Or.inl b_7, D_7⟩, S_7⟩ | exact ⟨rfl, Or.inr ⟨Or.inr c_12, D_17⟩, S_7.trans S_17⟩ | exact ⟨rfl, Or.inr ⟨Or.inr (by omega), D_17⟩, S_7.trans S_17⟩
    · try simp only [b01_0, bz_0, Classical.not_not] at c_12
      refine r_aload_n (pc := 15) dX2_readFaultNumber_15 rfl (by first | rfl | exact isRefV_rf _) ?_
      refine r_iload_n (pc := 16) dX2_readFaultNumber_16 rfl ?_
      refine r_callV1 (pc := 17) dX2_readFaultNumber_17 qX2_failAt kX2_56 vX2_failAt (by first | assumption | exact isI.gx (by assumption) | exact isI.gc (by assumption) | exact isW.gx (by assumption) | exact isW.gF (by assumption) | exact isW.gT (by assumption) (by omega) | exact isW.gS (by assumption) (by omega) | exact isW.gK (by assumption) (by omega) | exact isW.g1 (by assumption) | exact isW.g2 (by assumption) | exact isW.g3 (by assumption) | exact isI.gx (isW.i0 (by assumption)) | exact isI.gc (isW.i0 (by assumption)) | exact isI.gx (isW.i1 (by assumption)) | exact isI.gc (isW.i1 (by assumption)) | exact isI.gx (isW.i2 (by assumption)) | exact isI.gc (isW.i2 (by assumption)) | exact isI.gx (isW.i3 (by assumption)) | exact isI.gc (isW.i3 (by assumption)) | exact isI.gx (isW.i4 (by assumption)) | exact isI.gc (isW.i4 (by assumption)) | exact isI.gx (isW.i5 (by assumption)) | exact isI.gc (isW.i5 (by assumption)) | exact isR.gx (by assumption) | exact isRd.gx (by assumption) | exact isSp.gx (by assumption) | exact isI.gx (isR.i (by assumption)) | exact isI.gx (isRd.i (by assumption)) | exact isI.gc (isRd.i (by assumption)) | exact isI.gx (isSp.i (by assumption)) | exact isW.gx (isR.w (by assumption)) | exact isW.gF (isR.w (by assumption)) | fail "no such object") rfl rfl (Nat.le_of_ble_eq_true rfl) (rd_failAt _ D_7 (ftE_r he hp) p) (fun v_17 h_17 q_17 => ?_)
      obtain ⟨rfl, D_17, S_17⟩ := q_17
      rw [ftE_i hp0.1] at D_17
      refine r_iload_n (pc := 20) dX2_readFaultNumber_20 rfl ?_
      refine r_ireturn (pc := 21) .int dX2_readFaultNumber_21 rfl (by first | rfl | assumption) ?_
      first | exact ⟨rfl, Or.inl ⟨b_7, c_12, D_7⟩, S_7⟩ | exact ⟨rfl, Or.inr ⟨Or.inl b_7, D_7⟩, S_7⟩ | exact ⟨rfl, Or.inr ⟨Or.inr c_12, D_17⟩, S_7.trans S_17⟩ | exact ⟨rfl, Or.inr ⟨Or.inr (by omega), D_17⟩, S_7.trans S_17⟩
end mg_9k
section mg_9l
/-! ===== the class: a name is read, on any tape ===== -/
noncomputable def rnL (z : Int) (f : Nat → Int) : Nat → Int → Int64 → Int64 × Int
  | 0, p, y => (y, p)
  | n + 1, p, y => if 97 ≤ hereC p z f ∧ hereC p z f ≤ 122 then rnL z f n (p + 1) (y <<< ((J 5).toInt64 &&& 63) + (J (hereC p z f - 97 + 1)).toInt64) else rnL z f n p (y <<< ((J 5).toInt64 &&& 63))
theorem hereC_z (z : Int) (f : Nat → Int) : hereC z z f = -1 := by unfold hereC; rw [if_neg (by omega)]
theorem rnL_z {z : Int} {f : Nat → Int} : ∀ (n : Nat) (y : Int64), (rnL z f n z y).2 = z
  | 0, _ => rfl
  | n + 1, y => by rw [rnL, hereC_z, if_neg (by omega)]; exact rnL_z n _
theorem rnL_p {z : Int} {f : Nat → Int} : ∀ (n : Nat) (p : Int) (y : Int64), p ≤ (rnL z f n p y).2 ∧ (rnL z f n p y).2 ≤ p + n
  | 0, p, y => by unfold rnL; dsimp only; omega
  | n + 1, p, y => by
    unfold rnL
    split
    · have := rnL_p (z := z) (f := f) n (p + 1) (y <<< ((J 5).toInt64 &&& 63) + (J (hereC p z f - 97 + 1)).toInt64)
      omega
    · have := rnL_p (z := z) (f := f) n p (y <<< ((J 5).toInt64 &&& 63))
      omega
set_option maxHeartbeats 4000000 in
set_option maxRecDepth 100000 in
theorem L_readNameG {G : mG} {l : Launch} (d : Nat) {a : Nat} {e o z : Int} {f : Nat → Int} (he : InR e) (ho : InR o) (hz : InR z) (hf : ∀ q, InR (f q)) : ∀ (n t : Nat) (p : Int) (y : Int64) (h : mH), isRd h a p e o z f → t + n = 7 → 0 ≤ p ∧ p + n ≤ 1000 → RUN G l (d + 1) mX2_readName 22 [some (.ref a), some (.long y), none, some (.int (J (t : Int)))] [] h (fun v h' => v = some (.long (rnL z f n p y).1) ∧ isRd h' a (rnL z f n p y).2 e o z f ∧ Same (dBlk a) h h') := by
  intro n
  induction n with
  | zero =>
    intro t p y h hD ht hp
    refine r_iload_n (pc := 22) dX2_readName_22 rfl ?_
    refine rj_bipush (pc := 23) dX2_readName_23 (by decide +kernel) ?_
    refine rj_icmp_ge (pc := 25) (tgt := 71) dX2_readName_25 (by decide) (by first | exact b01_r | exact bz_r | omega | (constructor <;> omega) | apply_assumption | (apply atF_r; assumption) | fail "no range") (by first | exact b01_r | exact bz_r | omega | (constructor <;> omega) | apply_assumption | (apply atF_r; assumption) | fail "no range") (fun c_25 => ?_) (fun c_25 => ?_)
    · refine r_lload_n (pc := 71) dX2_readName_71 rfl ?_
      refine r_lreturn (pc := 72) dX2_readName_72 rfl ?_
      exact ⟨rfl, hD, Same.refl⟩
    · exfalso; omega
  | succ n ih =>
    intro t p y h hD ht hp
    have rh := hereC_r (p := p) (z := z) hf
    refine r_iload_n (pc := 22) dX2_readName_22 rfl ?_
    refine rj_bipush (pc := 23) dX2_readName_23 (by decide +kernel) ?_
    refine rj_icmp_ge (pc := 25) (tgt := 71) dX2_readName_25 (by decide) (by first | exact b01_r | exact bz_r | omega | (constructor <;> omega) | apply_assumption | (apply atF_r; assumption) | fail "no range") (by first | exact b01_r | exact bz_r | omega | (constructor <;> omega) | apply_assumption | (apply atF_r; assumption) | fail "no range") (fun c_25 => ?_) (fun c_25 => ?_)
    · refine r_lload_n (pc := 71) dX2_readName_71 rfl ?_
      refine r_lreturn (pc := 72) dX2_readName_72 rfl ?_
      exfalso; omega
    · refine r_lload_n (pc := 28) dX2_readName_28 rfl ?_
      refine rj_iconst (pc := 29) dX2_readName_29 ?_
      refine r_lshl (pc := 30) dX2_readName_30 ?_
      refine r_lstore_n (pc := 31) dX2_readName_31 (Nat.le_of_ble_eq_true rfl) ?_
      dsimp only [lsSt, lsSt2, List.set, mLs, mEnt]
      refine r_aload_n (pc := 32) dX2_readName_32 rfl (by first | rfl | exact isRefV_rf _) ?_
      refine r_callV0 (pc := 33) dX2_readName_33 qX2_here kX2_34 vX2_here (by first | assumption | exact isI.gx (by assumption) | exact isI.gc (by assumption) | exact isW.gx (by assumption) | exact isW.gF (by assumption) | exact isW.gT (by assumption) (by omega) | exact isW.gS (by assumption) (by omega) | exact isW.gK (by assumption) (by omega) | exact isW.g1 (by assumption) | exact isW.g2 (by assumption) | exact isW.g3 (by assumption) | exact isI.gx (isW.i0 (by assumption)) | exact isI.gc (isW.i0 (by assumption)) | exact isI.gx (isW.i1 (by assumption)) | exact isI.gc (isW.i1 (by assumption)) | exact isI.gx (isW.i2 (by assumption)) | exact isI.gc (isW.i2 (by assumption)) | exact isI.gx (isW.i3 (by assumption)) | exact isI.gc (isW.i3 (by assumption)) | exact isI.gx (isW.i4 (by assumption)) | exact isI.gc (isW.i4 (by assumption)) | exact isI.gx (isW.i5 (by assumption)) | exact isI.gc (isW.i5 (by assumption)) | exact isR.gx (by assumption) | exact isRd.gx (by assumption) | exact isSp.gx (by assumption) | exact isI.gx (isR.i (by assumption)) | exact isI.gx (isRd.i (by assumption)) | exact isI.gc (isRd.i (by assumption)) | exact isI.gx (isSp.i (by assumption)) | exact isW.gx (isR.w (by assumption)) | exact isW.gF (isR.w (by assumption)) | fail "no such object") rfl rfl (Nat.le_of_ble_eq_true rfl) (cd_here _ hD ⟨by omega, by omega⟩ he ho hz hf) (fun v_33 h_33 q_33 => ?_)
      obtain ⟨rfl, rfl⟩ := q_33
      refine r_callS1 (pc := 36) dX2_readName_36 qX2_isLetter kX2_103 sX2_isLetter (Nat.le_of_ble_eq_true rfl) (cd_isLetter _ (i := hereC p z f) rh) (fun v_36 h_36 q_36 => ?_)
      obtain ⟨rfl, rfl⟩ := q_36
      refine rj_if_eq (pc := 39) (tgt := 65) dX2_readName_39 (by decide) (by first | exact b01_r | exact bz_r | omega | (constructor <;> omega) | apply_assumption | (apply atF_r; assumption) | fail "no range") (fun c_39 => ?_) (fun c_39 => ?_)
      · try simp only [b01_0, bz_0, Classical.not_not] at c_39
        refine rj_iinc (pc := 65) dX2_readName_65 (Nat.le_of_ble_eq_true rfl) rfl ?_
        dsimp only [lsSt, List.set, mLs, mEnt]
        refine r_goto (pc := 68) (tgt := 22) dX2_readName_68 (by decide) ?_
        rw [rnL, if_neg c_39]
        exact ih (t + 1) p _ _ hD (by omega) (by omega)
      · try simp only [b01_0, bz_0, Classical.not_not] at c_39
        refine r_lload_n (pc := 42) dX2_readName_42 rfl ?_
        refine r_aload_n (pc := 43) dX2_readName_43 rfl (by first | rfl | exact isRefV_rf _) ?_
        refine r_callV0 (pc := 44) dX2_readName_44 qX2_here kX2_34 vX2_here (by first | assumption | exact isI.gx (by assumption) | exact isI.gc (by assumption) | exact isW.gx (by assumption) | exact isW.gF (by assumption) | exact isW.gT (by assumption) (by omega) | exact isW.gS (by assumption) (by omega) | exact isW.gK (by assumption) (by omega) | exact isW.g1 (by assumption) | exact isW.g2 (by assumption) | exact isW.g3 (by assumption) | exact isI.gx (isW.i0 (by assumption)) | exact isI.gc (isW.i0 (by assumption)) | exact isI.gx (isW.i1 (by assumption)) | exact isI.gc (isW.i1 (by assumption)) | exact isI.gx (isW.i2 (by assumption)) | exact isI.gc (isW.i2 (by assumption)) | exact isI.gx (isW.i3 (by assumption)) | exact isI.gc (isW.i3 (by assumption)) | exact isI.gx (isW.i4 (by assumption)) | exact isI.gc (isW.i4 (by assumption)) | exact isI.gx (isW.i5 (by assumption)) | exact isI.gc (isW.i5 (by assumption)) | exact isR.gx (by assumption) | exact isRd.gx (by assumption) | exact isSp.gx (by assumption) | exact isI.gx (isR.i (by assumption)) | exact isI.gx (isRd.i (by assumption)) | exact isI.gc (isRd.i (by assumption)) | exact isI.gx (isSp.i (by assumption)) | exact isW.gx (isR.w (by assumption)) | exact isW.gF (isR.w (by assumption)) | fail "no such object") rfl rfl (Nat.le_of_ble_eq_true rfl) (cd_here _ hD ⟨by omega, by omega⟩ he ho hz hf) (fun v_44 h_44 q_44 => ?_)
        obtain ⟨rfl, rfl⟩ := q_44
        refine rj_bipush (pc := 47) dX2_readName_47 (by decide +kernel) ?_
        refine rj_isub (pc := 49) dX2_readName_49 ?_
        refine rj_iconst (pc := 50) dX2_readName_50 ?_
        refine rj_iadd (pc := 51) dX2_readName_51 ?_
        refine r_i2l (pc := 52) dX2_readName_52 ?_
        refine r_ladd (pc := 53) dX2_readName_53 ?_
        refine r_lstore_n (pc := 54) dX2_readName_54 (Nat.le_of_ble_eq_true rfl) ?_
        dsimp only [lsSt, lsSt2, List.set, mLs, mEnt]
        refine r_aload_n (pc := 55) dX2_readName_55 rfl (by first | rfl | exact isRefV_rf _) ?_
        refine r_dup (pc := 56) dX2_readName_56 (by first | rfl | (cases ‹Option Nat› <;> rfl)) ?_
        refine r_getf (pc := 57) dX2_readName_57 fX2_53 (by first | assumption | exact isI.gx (by assumption) | exact isI.gc (by assumption) | exact isW.gx (by assumption) | exact isW.gF (by assumption) | exact isW.gT (by assumption) (by omega) | exact isW.gS (by assumption) (by omega) | exact isW.gK (by assumption) (by omega) | exact isW.g1 (by assumption) | exact isW.g2 (by assumption) | exact isW.g3 (by assumption) | exact isI.gx (isW.i0 (by assumption)) | exact isI.gc (isW.i0 (by assumption)) | exact isI.gx (isW.i1 (by assumption)) | exact isI.gc (isW.i1 (by assumption)) | exact isI.gx (isW.i2 (by assumption)) | exact isI.gc (isW.i2 (by assumption)) | exact isI.gx (isW.i3 (by assumption)) | exact isI.gc (isW.i3 (by assumption)) | exact isI.gx (isW.i4 (by assumption)) | exact isI.gc (isW.i4 (by assumption)) | exact isI.gx (isW.i5 (by assumption)) | exact isI.gc (isW.i5 (by assumption)) | exact isR.gx (by assumption) | exact isRd.gx (by assumption) | exact isSp.gx (by assumption) | exact isI.gx (isR.i (by assumption)) | exact isI.gx (isRd.i (by assumption)) | exact isI.gc (isRd.i (by assumption)) | exact isI.gx (isSp.i (by assumption)) | exact isW.gx (isR.w (by assumption)) | exact isW.gF (isR.w (by assumption)) | fail "no such object") (by rfl) ?_
        refine rj_iconst (pc := 60) dX2_readName_60 ?_
        refine rj_iadd (pc := 61) dX2_readName_61 ?_
        refine rc_putD1 (pc := 62) dX2_readName_62 fX2_53 (by assumption) (fun h_62 hW_62 hS_62 => ?_)
        refine rj_iinc (pc := 65) dX2_readName_65 (Nat.le_of_ble_eq_true rfl) rfl ?_
        dsimp only [lsSt, List.set, mLs, mEnt]
        refine r_goto (pc := 68) (tgt := 22) dX2_readName_68 (by decide) ?_
        rw [rnL, if_pos c_39]
        exact (ih (t + 1) (p + 1) _ _ hW_62 (by omega) (by omega)).mono (fun v h' g => ⟨g.1, g.2.1, hS_62.trans g.2.2⟩)
set_option maxHeartbeats 4000000 in
set_option maxRecDepth 100000 in
theorem rd_name {G : mG} {l : Launch} (d : Nat) {h : mH} {a : Nat} {p e o z : Int} {f : Nat → Int} (hD : isRd h a p e o z f) (hp : InR p) (he : InR e) (ho : InR o) (hz : InR z) (hf : ∀ q, InR (f q)) (hp0 : 0 ≤ p ∧ p + 20 ≤ 1000) (hz0 : 0 ≤ z ∧ z ≤ 120) : RUNM G l (d + 1) mX2_readName [.ref a] h (fun v h' => ((97 ≤ hereC p z f ∧ hereC p z f ≤ 122) ∧ v = some (.long (rnL z f 7 p 0).1) ∧ isRd h' a (rnL z f 7 p 0).2 e o z f ∧ Same (dBlk a) h h') ∨ (¬ (97 ≤ hereC p z f ∧ hereC p z f ≤ 122) ∧ (∃ y, v = some (.long y)) ∧ isRd h' a z (ftE e p) o z f ∧ Same (dBlk a) h h')) := by
  refine RUNM.of (by decide +kernel) (Nat.le_of_ble_eq_true rfl) ?_
  have rh := hereC_r (p := p) (z := z) hf
  refine r_aload_n (pc := 0) dX2_readName_0 rfl (by first | rfl | exact isRefV_rf _) ?_
  refine r_callV0 (pc := 1) dX2_readName_1 qX2_here kX2_34 vX2_here (by first | assumption | exact isI.gx (by assumption) | exact isI.gc (by assumption) | exact isW.gx (by assumption) | exact isW.gF (by assumption) | exact isW.gT (by assumption) (by omega) | exact isW.gS (by assumption) (by omega) | exact isW.gK (by assumption) (by omega) | exact isW.g1 (by assumption) | exact isW.g2 (by assumption) | exact isW.g3 (by assumption) | exact isI.gx (isW.i0 (by assumption)) | exact isI.gc (isW.i0 (by assumption)) | exact isI.gx (isW.i1 (by assumption)) | exact isI.gc (isW.i1 (by assumption)) | exact isI.gx (isW.i2 (by assumption)) | exact isI.gc (isW.i2 (by assumption)) | exact isI.gx (isW.i3 (by assumption)) | exact isI.gc (isW.i3 (by assumption)) | exact isI.gx (isW.i4 (by assumption)) | exact isI.gc (isW.i4 (by assumption)) | exact isI.gx (isW.i5 (by assumption)) | exact isI.gc (isW.i5 (by assumption)) | exact isR.gx (by assumption) | exact isRd.gx (by assumption) | exact isSp.gx (by assumption) | exact isI.gx (isR.i (by assumption)) | exact isI.gx (isRd.i (by assumption)) | exact isI.gc (isRd.i (by assumption)) | exact isI.gx (isSp.i (by assumption)) | exact isW.gx (isR.w (by assumption)) | exact isW.gF (isR.w (by assumption)) | fail "no such object") rfl rfl (Nat.le_of_ble_eq_true rfl) (cd_here _ hD hp he ho hz hf) (fun v_1 h_1 q_1 => ?_)
  obtain ⟨rfl, rfl⟩ := q_1
  refine r_callS1 (pc := 4) dX2_readName_4 qX2_isLetter kX2_103 sX2_isLetter (Nat.le_of_ble_eq_true rfl) (cd_isLetter _ (i := hereC p z f) rh) (fun v_4 h_4 q_4 => ?_)
  obtain ⟨rfl, rfl⟩ := q_4
  refine rj_if_ne (pc := 7) (tgt := 18) dX2_readName_7 (by decide) (by first | exact b01_r | exact bz_r | omega | (constructor <;> omega) | apply_assumption | (apply atF_r; assumption) | fail "no range") (fun c_7 => ?_) (fun c_7 => ?_)
  · try simp only [b01_0, bz_0, Classical.not_not] at c_7
    refine r_lconst (pc := 18) (v := 0) dX2_readName_18 (by decide) ?_
    refine r_lstore_n (pc := 19) dX2_readName_19 (Nat.le_of_ble_eq_true rfl) ?_
    dsimp only [lsSt, lsSt2, List.set, mLs, mEnt]
    refine rj_iconst (pc := 20) dX2_readName_20 ?_
    refine r_istore_n (pc := 21) dX2_readName_21 (Nat.le_of_ble_eq_true rfl) ?_
    dsimp only [lsSt, List.set, mLs, mEnt]
    have y := L_readNameG (G := G) (l := l) d he ho hz hf 7 0 p 0 _ hD (by omega) (by omega)
    exact y.mono (fun v h' g => Or.inl ⟨c_7, g.1, g.2.1, g.2.2⟩)
  · try simp only [b01_0, bz_0, Classical.not_not] at c_7
    refine r_aload_n (pc := 10) dX2_readName_10 rfl (by first | rfl | exact isRefV_rf _) ?_
    refine r_aload_n (pc := 11) dX2_readName_11 rfl (by first | rfl | exact isRefV_rf _) ?_
    refine r_getf (pc := 12) dX2_readName_12 fX2_53 (by first | assumption | exact isI.gx (by assumption) | exact isI.gc (by assumption) | exact isW.gx (by assumption) | exact isW.gF (by assumption) | exact isW.gT (by assumption) (by omega) | exact isW.gS (by assumption) (by omega) | exact isW.gK (by assumption) (by omega) | exact isW.g1 (by assumption) | exact isW.g2 (by assumption) | exact isW.g3 (by assumption) | exact isI.gx (isW.i0 (by assumption)) | exact isI.gc (isW.i0 (by assumption)) | exact isI.gx (isW.i1 (by assumption)) | exact isI.gc (isW.i1 (by assumption)) | exact isI.gx (isW.i2 (by assumption)) | exact isI.gc (isW.i2 (by assumption)) | exact isI.gx (isW.i3 (by assumption)) | exact isI.gc (isW.i3 (by assumption)) | exact isI.gx (isW.i4 (by assumption)) | exact isI.gc (isW.i4 (by assumption)) | exact isI.gx (isW.i5 (by assumption)) | exact isI.gc (isW.i5 (by assumption)) | exact isR.gx (by assumption) | exact isRd.gx (by assumption) | exact isSp.gx (by assumption) | exact isI.gx (isR.i (by assumption)) | exact isI.gx (isRd.i (by assumption)) | exact isI.gc (isRd.i (by assumption)) | exact isI.gx (isSp.i (by assumption)) | exact isW.gx (isR.w (by assumption)) | exact isW.gF (isR.w (by assumption)) | fail "no such object") (by rfl) ?_
    refine r_callV1 (pc := 15) dX2_readName_15 qX2_failAt kX2_56 vX2_failAt (by first | assumption | exact isI.gx (by assumption) | exact isI.gc (by assumption) | exact isW.gx (by assumption) | exact isW.gF (by assumption) | exact isW.gT (by assumption) (by omega) | exact isW.gS (by assumption) (by omega) | exact isW.gK (by assumption) (by omega) | exact isW.g1 (by assumption) | exact isW.g2 (by assumption) | exact isW.g3 (by assumption) | exact isI.gx (isW.i0 (by assumption)) | exact isI.gc (isW.i0 (by assumption)) | exact isI.gx (isW.i1 (by assumption)) | exact isI.gc (isW.i1 (by assumption)) | exact isI.gx (isW.i2 (by assumption)) | exact isI.gc (isW.i2 (by assumption)) | exact isI.gx (isW.i3 (by assumption)) | exact isI.gc (isW.i3 (by assumption)) | exact isI.gx (isW.i4 (by assumption)) | exact isI.gc (isW.i4 (by assumption)) | exact isI.gx (isW.i5 (by assumption)) | exact isI.gc (isW.i5 (by assumption)) | exact isR.gx (by assumption) | exact isRd.gx (by assumption) | exact isSp.gx (by assumption) | exact isI.gx (isR.i (by assumption)) | exact isI.gx (isRd.i (by assumption)) | exact isI.gc (isRd.i (by assumption)) | exact isI.gx (isSp.i (by assumption)) | exact isW.gx (isR.w (by assumption)) | exact isW.gF (isR.w (by assumption)) | fail "no such object") rfl rfl (Nat.le_of_ble_eq_true rfl) (rd_failAt _ hD he p) (fun v_15 h_15 q_15 => ?_)
    obtain ⟨rfl, D_15, S_15⟩ := q_15
    refine r_lconst (pc := 18) (v := 0) dX2_readName_18 (by decide) ?_
    refine r_lstore_n (pc := 19) dX2_readName_19 (Nat.le_of_ble_eq_true rfl) ?_
    dsimp only [lsSt, lsSt2, List.set, mLs, mEnt]
    refine rj_iconst (pc := 20) dX2_readName_20 ?_
    refine r_istore_n (pc := 21) dX2_readName_21 (Nat.le_of_ble_eq_true rfl) ?_
    dsimp only [lsSt, List.set, mLs, mEnt]
    have y := L_readNameG (G := G) (l := l) d (ftE_r he hp) ho hz hf 7 0 z 0 _ D_15 (by omega) (by omega)
    rw [rnL_z] at y
    exact y.mono (fun v h' g => Or.inr ⟨c_7, ⟨_, g.1⟩, g.2.1, S_15.trans g.2.2⟩)
end mg_9l
section mg_9m
/-! ===== the class: what may begin a step ===== -/
def mbP (k br gd o : Int) : Prop := (k = 43 ∨ k = 33 ∨ k = 97 ∨ k = 120 ∨ k = 109 ∨ k = 107 ∨ k = 46) ∨ (k = 63 ∧ gd = 0) ∨ (k = 40 ∧ gd = 0 ∧ br = 0) ∨ (k = 41 ∧ gd = 0 ∧ br = 0 ∧ 0 < o)
set_option maxHeartbeats 4000000 in
set_option maxRecDepth 100000 in
theorem rd_mayBegin {G : mG} {l : Launch} (d : Nat) {h : mH} {a : Nat} {p e o z : Int} {f : Nat → Int} (hD : isRd h a p e o z f) (ho : InR o) {k br gd : Int} (hk : InR k) (hbr : InR br) (hgd : InR gd) : RUNM G l (d) mX2_mayBegin [.ref a, .int (J k), .int (J br), .int (J gd)] h (fun v h' => (mbP k br gd o → v = some (.int (J 1))) ∧ (¬ mbP k br gd o → v = some (.int (J 0))) ∧ h' = h) := by
  refine RUNM.of (by decide +kernel) (Nat.le_of_ble_eq_true rfl) ?_
  refine r_iload_n (pc := 0) dX2_mayBegin_0 rfl ?_
  refine rj_lsw (pc := 1) dX2_mayBegin_1 rfl (by first | exact b01_r | exact bz_r | omega | (constructor <;> omega) | apply_assumption | (apply atF_r; assumption) | fail "no range") (lsw_pos _ (by decide +kernel) (by decide +kernel)) (fun off_1 tgt_1 ho_1 ht_1 => ?_)
  simp only [Op.lookupswitch.offset_cons, Op.lookupswitch.offset_nil] at ho_1
  by_cases e_1_33 : (33 : Int) = k
  · rw [if_pos e_1_33] at ho_1
    obtain rfl : tgt_1 = 92 := by omega
    refine rj_iconst (pc := 92) dX2_mayBegin_92 ?_
    refine r_ireturn (pc := 93) .boolean dX2_mayBegin_93 rfl (by first | exact nar_J0 | exact nar_J1 | exact nar_b01 | exact nar_bz) ?_
    first | exact ⟨fun _ => rfl, fun q => absurd (by unfold mbP; omega) q, rfl⟩ | exact ⟨fun q => absurd q (by unfold mbP; omega), fun _ => rfl, rfl⟩
  rw [if_neg e_1_33] at ho_1
  by_cases e_1_40 : (40 : Int) = k
  · rw [if_pos e_1_40] at ho_1
    obtain rfl : tgt_1 = 104 := by omega
    refine r_iload_n (pc := 104) dX2_mayBegin_104 rfl ?_
    refine rj_if_ne (pc := 105) (tgt := 116) dX2_mayBegin_105 (by decide) (by first | exact b01_r | exact bz_r | omega | (constructor <;> omega) | apply_assumption | (apply atF_r; assumption) | fail "no range") (fun c_105 => ?_) (fun c_105 => ?_)
    · try simp only [b01_0, bz_0, Classical.not_not] at c_105
      refine rj_iconst (pc := 116) dX2_mayBegin_116 ?_
      refine r_ireturn (pc := 117) .boolean dX2_mayBegin_117 rfl (by first | exact nar_J0 | exact nar_J1 | exact nar_b01 | exact nar_bz) ?_
      first | exact ⟨fun _ => rfl, fun q => absurd (by unfold mbP; omega) q, rfl⟩ | exact ⟨fun q => absurd q (by unfold mbP; omega), fun _ => rfl, rfl⟩
    · try simp only [b01_0, bz_0, Classical.not_not] at c_105
      refine r_iload_n (pc := 108) dX2_mayBegin_108 rfl ?_
      refine rj_if_ne (pc := 109) (tgt := 116) dX2_mayBegin_109 (by decide) (by first | exact b01_r | exact bz_r | omega | (constructor <;> omega) | apply_assumption | (apply atF_r; assumption) | fail "no range") (fun c_109 => ?_) (fun c_109 => ?_)
      · try simp only [b01_0, bz_0, Classical.not_not] at c_109
        refine rj_iconst (pc := 116) dX2_mayBegin_116 ?_
        refine r_ireturn (pc := 117) .boolean dX2_mayBegin_117 rfl (by first | exact nar_J0 | exact nar_J1 | exact nar_b01 | exact nar_bz) ?_
        first | exact ⟨fun _ => rfl, fun q => absurd (by unfold mbP; omega) q, rfl⟩ | exact ⟨fun q => absurd q (by unfold mbP; omega), fun _ => rfl, rfl⟩
      · try simp only [b01_0, bz_0, Classical.not_not] at c_109
        refine rj_iconst (pc := 112) dX2_mayBegin_112 ?_
        refine r_goto (pc := 113) (tgt := 117) dX2_mayBegin_113 (by decide) ?_
        refine r_ireturn (pc := 117) .boolean dX2_mayBegin_117 rfl (by first | exact nar_J0 | exact nar_J1 | exact nar_b01 | exact nar_bz) ?_
        first | exact ⟨fun _ => rfl, fun q => absurd (by unfold mbP; omega) q, rfl⟩ | exact ⟨fun q => absurd q (by unfold mbP; omega), fun _ => rfl, rfl⟩
  rw [if_neg e_1_40] at ho_1
  by_cases e_1_41 : (41 : Int) = k
  · rw [if_pos e_1_41] at ho_1
    obtain rfl : tgt_1 = 118 := by omega
    refine r_iload_n (pc := 118) dX2_mayBegin_118 rfl ?_
    refine rj_if_ne (pc := 119) (tgt := 137) dX2_mayBegin_119 (by decide) (by first | exact b01_r | exact bz_r | omega | (constructor <;> omega) | apply_assumption | (apply atF_r; assumption) | fail "no range") (fun c_119 => ?_) (fun c_119 => ?_)
    · try simp only [b01_0, bz_0, Classical.not_not] at c_119
      refine rj_iconst (pc := 137) dX2_mayBegin_137 ?_
      refine r_ireturn (pc := 138) .boolean dX2_mayBegin_138 rfl (by first | exact nar_J0 | exact nar_J1 | exact nar_b01 | exact nar_bz) ?_
      first | exact ⟨fun _ => rfl, fun q => absurd (by unfold mbP; omega) q, rfl⟩ | exact ⟨fun q => absurd q (by unfold mbP; omega), fun _ => rfl, rfl⟩
    · try simp only [b01_0, bz_0, Classical.not_not] at c_119
      refine r_iload_n (pc := 122) dX2_mayBegin_122 rfl ?_
      refine rj_if_ne (pc := 123) (tgt := 137) dX2_mayBegin_123 (by decide) (by first | exact b01_r | exact bz_r | omega | (constructor <;> omega) | apply_assumption | (apply atF_r; assumption) | fail "no range") (fun c_123 => ?_) (fun c_123 => ?_)
      · try simp only [b01_0, bz_0, Classical.not_not] at c_123
        refine rj_iconst (pc := 137) dX2_mayBegin_137 ?_
        refine r_ireturn (pc := 138) .boolean dX2_mayBegin_138 rfl (by first | exact nar_J0 | exact nar_J1 | exact nar_b01 | exact nar_bz) ?_
        first | exact ⟨fun _ => rfl, fun q => absurd (by unfold mbP; omega) q, rfl⟩ | exact ⟨fun q => absurd q (by unfold mbP; omega), fun _ => rfl, rfl⟩
      · try simp only [b01_0, bz_0, Classical.not_not] at c_123
        refine r_aload_n (pc := 126) dX2_mayBegin_126 rfl (by first | rfl | exact isRefV_rf _) ?_
        refine r_getf (pc := 127) dX2_mayBegin_127 fX2_59 (by first | assumption | exact isI.gx (by assumption) | exact isI.gc (by assumption) | exact isW.gx (by assumption) | exact isW.gF (by assumption) | exact isW.gT (by assumption) (by omega) | exact isW.gS (by assumption) (by omega) | exact isW.gK (by assumption) (by omega) | exact isW.g1 (by assumption) | exact isW.g2 (by assumption) | exact isW.g3 (by assumption) | exact isI.gx (isW.i0 (by assumption)) | exact isI.gc (isW.i0 (by assumption)) | exact isI.gx (isW.i1 (by assumption)) | exact isI.gc (isW.i1 (by assumption)) | exact isI.gx (isW.i2 (by assumption)) | exact isI.gc (isW.i2 (by assumption)) | exact isI.gx (isW.i3 (by assumption)) | exact isI.gc (isW.i3 (by assumption)) | exact isI.gx (isW.i4 (by assumption)) | exact isI.gc (isW.i4 (by assumption)) | exact isI.gx (isW.i5 (by assumption)) | exact isI.gc (isW.i5 (by assumption)) | exact isR.gx (by assumption) | exact isRd.gx (by assumption) | exact isSp.gx (by assumption) | exact isI.gx (isR.i (by assumption)) | exact isI.gx (isRd.i (by assumption)) | exact isI.gc (isRd.i (by assumption)) | exact isI.gx (isSp.i (by assumption)) | exact isW.gx (isR.w (by assumption)) | exact isW.gF (isR.w (by assumption)) | fail "no such object") (by rfl) ?_
        refine rj_if_le (pc := 130) (tgt := 137) dX2_mayBegin_130 (by decide) (by first | exact b01_r | exact bz_r | omega | (constructor <;> omega) | apply_assumption | (apply atF_r; assumption) | fail "no range") (fun c_130 => ?_) (fun c_130 => ?_)
        · refine rj_iconst (pc := 137) dX2_mayBegin_137 ?_
          refine r_ireturn (pc := 138) .boolean dX2_mayBegin_138 rfl (by first | exact nar_J0 | exact nar_J1 | exact nar_b01 | exact nar_bz) ?_
          first | exact ⟨fun _ => rfl, fun q => absurd (by unfold mbP; omega) q, rfl⟩ | exact ⟨fun q => absurd q (by unfold mbP; omega), fun _ => rfl, rfl⟩
        · refine rj_iconst (pc := 133) dX2_mayBegin_133 ?_
          refine r_goto (pc := 134) (tgt := 138) dX2_mayBegin_134 (by decide) ?_
          refine r_ireturn (pc := 138) .boolean dX2_mayBegin_138 rfl (by first | exact nar_J0 | exact nar_J1 | exact nar_b01 | exact nar_bz) ?_
          first | exact ⟨fun _ => rfl, fun q => absurd (by unfold mbP; omega) q, rfl⟩ | exact ⟨fun q => absurd q (by unfold mbP; omega), fun _ => rfl, rfl⟩
  rw [if_neg e_1_41] at ho_1
  by_cases e_1_43 : (43 : Int) = k
  · rw [if_pos e_1_43] at ho_1
    obtain rfl : tgt_1 = 92 := by omega
    refine rj_iconst (pc := 92) dX2_mayBegin_92 ?_
    refine r_ireturn (pc := 93) .boolean dX2_mayBegin_93 rfl (by first | exact nar_J0 | exact nar_J1 | exact nar_b01 | exact nar_bz) ?_
    first | exact ⟨fun _ => rfl, fun q => absurd (by unfold mbP; omega) q, rfl⟩ | exact ⟨fun q => absurd q (by unfold mbP; omega), fun _ => rfl, rfl⟩
  rw [if_neg e_1_43] at ho_1
  by_cases e_1_46 : (46 : Int) = k
  · rw [if_pos e_1_46] at ho_1
    obtain rfl : tgt_1 = 92 := by omega
    refine rj_iconst (pc := 92) dX2_mayBegin_92 ?_
    refine r_ireturn (pc := 93) .boolean dX2_mayBegin_93 rfl (by first | exact nar_J0 | exact nar_J1 | exact nar_b01 | exact nar_bz) ?_
    first | exact ⟨fun _ => rfl, fun q => absurd (by unfold mbP; omega) q, rfl⟩ | exact ⟨fun q => absurd q (by unfold mbP; omega), fun _ => rfl, rfl⟩
  rw [if_neg e_1_46] at ho_1
  by_cases e_1_63 : (63 : Int) = k
  · rw [if_pos e_1_63] at ho_1
    obtain rfl : tgt_1 = 94 := by omega
    refine r_iload_n (pc := 94) dX2_mayBegin_94 rfl ?_
    refine rj_if_ne (pc := 95) (tgt := 102) dX2_mayBegin_95 (by decide) (by first | exact b01_r | exact bz_r | omega | (constructor <;> omega) | apply_assumption | (apply atF_r; assumption) | fail "no range") (fun c_95 => ?_) (fun c_95 => ?_)
    · try simp only [b01_0, bz_0, Classical.not_not] at c_95
      refine rj_iconst (pc := 102) dX2_mayBegin_102 ?_
      refine r_ireturn (pc := 103) .boolean dX2_mayBegin_103 rfl (by first | exact nar_J0 | exact nar_J1 | exact nar_b01 | exact nar_bz) ?_
      first | exact ⟨fun _ => rfl, fun q => absurd (by unfold mbP; omega) q, rfl⟩ | exact ⟨fun q => absurd q (by unfold mbP; omega), fun _ => rfl, rfl⟩
    · try simp only [b01_0, bz_0, Classical.not_not] at c_95
      refine rj_iconst (pc := 98) dX2_mayBegin_98 ?_
      refine r_goto (pc := 99) (tgt := 103) dX2_mayBegin_99 (by decide) ?_
      refine r_ireturn (pc := 103) .boolean dX2_mayBegin_103 rfl (by first | exact nar_J0 | exact nar_J1 | exact nar_b01 | exact nar_bz) ?_
      first | exact ⟨fun _ => rfl, fun q => absurd (by unfold mbP; omega) q, rfl⟩ | exact ⟨fun q => absurd q (by unfold mbP; omega), fun _ => rfl, rfl⟩
  rw [if_neg e_1_63] at ho_1
  by_cases e_1_97 : (97 : Int) = k
  · rw [if_pos e_1_97] at ho_1
    obtain rfl : tgt_1 = 92 := by omega
    refine rj_iconst (pc := 92) dX2_mayBegin_92 ?_
    refine r_ireturn (pc := 93) .boolean dX2_mayBegin_93 rfl (by first | exact nar_J0 | exact nar_J1 | exact nar_b01 | exact nar_bz) ?_
    first | exact ⟨fun _ => rfl, fun q => absurd (by unfold mbP; omega) q, rfl⟩ | exact ⟨fun q => absurd q (by unfold mbP; omega), fun _ => rfl, rfl⟩
  rw [if_neg e_1_97] at ho_1
  by_cases e_1_107 : (107 : Int) = k
  · rw [if_pos e_1_107] at ho_1
    obtain rfl : tgt_1 = 92 := by omega
    refine rj_iconst (pc := 92) dX2_mayBegin_92 ?_
    refine r_ireturn (pc := 93) .boolean dX2_mayBegin_93 rfl (by first | exact nar_J0 | exact nar_J1 | exact nar_b01 | exact nar_bz) ?_
    first | exact ⟨fun _ => rfl, fun q => absurd (by unfold mbP; omega) q, rfl⟩ | exact ⟨fun q => absurd q (by unfold mbP; omega), fun _ => rfl, rfl⟩
  rw [if_neg e_1_107] at ho_1
  by_cases e_1_109 : (109 : Int) = k
  · rw [if_pos e_1_109] at ho_1
    obtain rfl : tgt_1 = 92 := by omega
    refine rj_iconst (pc := 92) dX2_mayBegin_92 ?_
    refine r_ireturn (pc := 93) .boolean dX2_mayBegin_93 rfl (by first | exact nar_J0 | exact nar_J1 | exact nar_b01 | exact nar_bz) ?_
    first | exact ⟨fun _ => rfl, fun q => absurd (by unfold mbP; omega) q, rfl⟩ | exact ⟨fun q => absurd q (by unfold mbP; omega), fun _ => rfl, rfl⟩
  rw [if_neg e_1_109] at ho_1
  by_cases e_1_120 : (120 : Int) = k
  · rw [if_pos e_1_120] at ho_1
    obtain rfl : tgt_1 = 92 := by omega
    refine rj_iconst (pc := 92) dX2_mayBegin_92 ?_
    refine r_ireturn (pc := 93) .boolean dX2_mayBegin_93 rfl (by first | exact nar_J0 | exact nar_J1 | exact nar_b01 | exact nar_bz) ?_
    first | exact ⟨fun _ => rfl, fun q => absurd (by unfold mbP; omega) q, rfl⟩ | exact ⟨fun q => absurd q (by unfold mbP; omega), fun _ => rfl, rfl⟩
  rw [if_neg e_1_120] at ho_1
  obtain rfl : tgt_1 = 139 := by omega
  refine rj_iconst (pc := 139) dX2_mayBegin_139 ?_
  refine r_ireturn (pc := 140) .boolean dX2_mayBegin_140 rfl (by first | exact nar_J0 | exact nar_J1 | exact nar_b01 | exact nar_bz) ?_
  first | exact ⟨fun _ => rfl, fun q => absurd (by unfold mbP; omega) q, rfl⟩ | exact ⟨fun q => absurd q (by unfold mbP; omega), fun _ => rfl, rfl⟩
end mg_9m
section mg_9n
/-! ===== the class: nothing is read where no step may begin ===== -/
set_option maxHeartbeats 4000000 in
set_option maxRecDepth 100000 in
theorem rd_stepNot {G : mG} {l : Launch} (d : Nat) {h : mH} {a : Nat} {p e o z : Int} {f : Nat → Int} (hD : isRd h a p e o z f) (hp : InR p) (he : InR e) (ho : InR o) (hz : InR z) (hf : ∀ q, InR (f q)) {br gd : Int} (hbr : InR br) (hgd : InR gd) (hm : ¬ mbP (hereC p z f) br gd o) : RUNM G l (d + 1) mX2_readStep [.ref a, .int (J br), .int (J gd)] h (fun v h' => v = some .null ∧ isRd h' a z (ftE e p) o z f ∧ Same (dBlk a) h h') := by
  refine RUNM.of (by decide +kernel) (Nat.le_of_ble_eq_true rfl) ?_
  refine r_aload_n (pc := 0) dX2_readStep_0 rfl (by first | rfl | exact isRefV_rf _) ?_
  refine r_callV0 (pc := 1) dX2_readStep_1 qX2_here kX2_34 vX2_here (by first | assumption | exact isI.gx (by assumption) | exact isI.gc (by assumption) | exact isW.gx (by assumption) | exact isW.gF (by assumption) | exact isW.gT (by assumption) (by omega) | exact isW.gS (by assumption) (by omega) | exact isW.gK (by assumption) (by omega) | exact isW.g1 (by assumption) | exact isW.g2 (by assumption) | exact isW.g3 (by assumption) | exact isI.gx (isW.i0 (by assumption)) | exact isI.gc (isW.i0 (by assumption)) | exact isI.gx (isW.i1 (by assumption)) | exact isI.gc (isW.i1 (by assumption)) | exact isI.gx (isW.i2 (by assumption)) | exact isI.gc (isW.i2 (by assumption)) | exact isI.gx (isW.i3 (by assumption)) | exact isI.gc (isW.i3 (by assumption)) | exact isI.gx (isW.i4 (by assumption)) | exact isI.gc (isW.i4 (by assumption)) | exact isI.gx (isW.i5 (by assumption)) | exact isI.gc (isW.i5 (by assumption)) | exact isR.gx (by assumption) | exact isRd.gx (by assumption) | exact isSp.gx (by assumption) | exact isI.gx (isR.i (by assumption)) | exact isI.gx (isRd.i (by assumption)) | exact isI.gc (isRd.i (by assumption)) | exact isI.gx (isSp.i (by assumption)) | exact isW.gx (isR.w (by assumption)) | exact isW.gF (isR.w (by assumption)) | fail "no such object") rfl rfl (Nat.le_of_ble_eq_true rfl) (cd_here _ hD hp he ho hz hf) (fun v_1 h_1 q_1 => ?_)
  obtain ⟨rfl, rfl⟩ := q_1
  have rh := hereC_r (p := p) (z := z) hf
  refine r_istore_n (pc := 4) dX2_readStep_4 (Nat.le_of_ble_eq_true rfl) ?_
  dsimp only [lsSt, List.set, mLs, mEnt]
  refine r_aload_n (pc := 5) dX2_readStep_5 rfl (by first | rfl | exact isRefV_rf _) ?_
  refine r_iload_n (pc := 6) dX2_readStep_6 rfl ?_
  refine r_iload_n (pc := 7) dX2_readStep_7 rfl ?_
  refine r_iload_n (pc := 8) dX2_readStep_8 rfl ?_
  refine r_callV3 (pc := 9) dX2_readStep_9 qX2_mayBegin kX2_76 vX2_mayBegin (by first | assumption | exact isI.gx (by assumption) | exact isI.gc (by assumption) | exact isW.gx (by assumption) | exact isW.gF (by assumption) | exact isW.gT (by assumption) (by omega) | exact isW.gS (by assumption) (by omega) | exact isW.gK (by assumption) (by omega) | exact isW.g1 (by assumption) | exact isW.g2 (by assumption) | exact isW.g3 (by assumption) | exact isI.gx (isW.i0 (by assumption)) | exact isI.gc (isW.i0 (by assumption)) | exact isI.gx (isW.i1 (by assumption)) | exact isI.gc (isW.i1 (by assumption)) | exact isI.gx (isW.i2 (by assumption)) | exact isI.gc (isW.i2 (by assumption)) | exact isI.gx (isW.i3 (by assumption)) | exact isI.gc (isW.i3 (by assumption)) | exact isI.gx (isW.i4 (by assumption)) | exact isI.gc (isW.i4 (by assumption)) | exact isI.gx (isW.i5 (by assumption)) | exact isI.gc (isW.i5 (by assumption)) | exact isR.gx (by assumption) | exact isRd.gx (by assumption) | exact isSp.gx (by assumption) | exact isI.gx (isR.i (by assumption)) | exact isI.gx (isRd.i (by assumption)) | exact isI.gc (isRd.i (by assumption)) | exact isI.gx (isSp.i (by assumption)) | exact isW.gx (isR.w (by assumption)) | exact isW.gF (isR.w (by assumption)) | fail "no such object") rfl rfl (Nat.le_of_ble_eq_true rfl) (rd_mayBegin _ hD ho (k := hereC p z f) rh hbr hgd) (fun v_9 h_9 q_9 => ?_)
  obtain ⟨-, q_9b, rfl⟩ := q_9
  obtain rfl := q_9b hm
  refine rj_if_ne (pc := 12) (tgt := 25) dX2_readStep_12 (by decide) (by first | exact b01_r | exact bz_r | omega | (constructor <;> omega) | apply_assumption | (apply atF_r; assumption) | fail "no range") (fun c_12 => ?_) (fun c_12 => ?_)
  · try simp only [b01_0, bz_0, Classical.not_not] at c_12
    all_goals (first | exact absurd trivial ‹¬ True› | (exfalso; omega))
  · try simp only [b01_0, bz_0, Classical.not_not] at c_12
    refine r_aload_n (pc := 15) dX2_readStep_15 rfl (by first | rfl | exact isRefV_rf _) ?_
    refine r_aload_n (pc := 16) dX2_readStep_16 rfl (by first | rfl | exact isRefV_rf _) ?_
    refine r_getf (pc := 17) dX2_readStep_17 fX2_53 (by first | assumption | exact isI.gx (by assumption) | exact isI.gc (by assumption) | exact isW.gx (by assumption) | exact isW.gF (by assumption) | exact isW.gT (by assumption) (by omega) | exact isW.gS (by assumption) (by omega) | exact isW.gK (by assumption) (by omega) | exact isW.g1 (by assumption) | exact isW.g2 (by assumption) | exact isW.g3 (by assumption) | exact isI.gx (isW.i0 (by assumption)) | exact isI.gc (isW.i0 (by assumption)) | exact isI.gx (isW.i1 (by assumption)) | exact isI.gc (isW.i1 (by assumption)) | exact isI.gx (isW.i2 (by assumption)) | exact isI.gc (isW.i2 (by assumption)) | exact isI.gx (isW.i3 (by assumption)) | exact isI.gc (isW.i3 (by assumption)) | exact isI.gx (isW.i4 (by assumption)) | exact isI.gc (isW.i4 (by assumption)) | exact isI.gx (isW.i5 (by assumption)) | exact isI.gc (isW.i5 (by assumption)) | exact isR.gx (by assumption) | exact isRd.gx (by assumption) | exact isSp.gx (by assumption) | exact isI.gx (isR.i (by assumption)) | exact isI.gx (isRd.i (by assumption)) | exact isI.gc (isRd.i (by assumption)) | exact isI.gx (isSp.i (by assumption)) | exact isW.gx (isR.w (by assumption)) | exact isW.gF (isR.w (by assumption)) | fail "no such object") (by rfl) ?_
    refine r_callV1 (pc := 20) dX2_readStep_20 qX2_failAt kX2_56 vX2_failAt (by first | assumption | exact isI.gx (by assumption) | exact isI.gc (by assumption) | exact isW.gx (by assumption) | exact isW.gF (by assumption) | exact isW.gT (by assumption) (by omega) | exact isW.gS (by assumption) (by omega) | exact isW.gK (by assumption) (by omega) | exact isW.g1 (by assumption) | exact isW.g2 (by assumption) | exact isW.g3 (by assumption) | exact isI.gx (isW.i0 (by assumption)) | exact isI.gc (isW.i0 (by assumption)) | exact isI.gx (isW.i1 (by assumption)) | exact isI.gc (isW.i1 (by assumption)) | exact isI.gx (isW.i2 (by assumption)) | exact isI.gc (isW.i2 (by assumption)) | exact isI.gx (isW.i3 (by assumption)) | exact isI.gc (isW.i3 (by assumption)) | exact isI.gx (isW.i4 (by assumption)) | exact isI.gc (isW.i4 (by assumption)) | exact isI.gx (isW.i5 (by assumption)) | exact isI.gc (isW.i5 (by assumption)) | exact isR.gx (by assumption) | exact isRd.gx (by assumption) | exact isSp.gx (by assumption) | exact isI.gx (isR.i (by assumption)) | exact isI.gx (isRd.i (by assumption)) | exact isI.gc (isRd.i (by assumption)) | exact isI.gx (isSp.i (by assumption)) | exact isW.gx (isR.w (by assumption)) | exact isW.gF (isR.w (by assumption)) | fail "no such object") rfl rfl (Nat.le_of_ble_eq_true rfl) (rd_failAt _ hD he p) (fun v_20 h_20 q_20 => ?_)
    obtain ⟨rfl, D_20, S_20⟩ := q_20
    refine r_null (pc := 23) dX2_readStep_23 ?_
    refine r_areturn (pc := 24) _ dX2_readStep_24 rfl (Or.inl ⟨_, rfl⟩) (by first | rfl | exact isRefV_rf _) ?_
    exact ⟨rfl, D_20, S_20⟩
end mg_9n
section mg_9o
/-! ===== names as longs; what the class's reader makes of a text, beside the reference's ===== -/
theorem wb_tb (n : Nat) : (lN n).toBitVec = BitVec.ofNat 64 n := rfl
theorem wb_inj {a b : Int64} (h : a.toBitVec = b.toBitVec) : a = b := Int64.toBitVec_inj.mp h
theorem wb_c : ∀ k, k < 64 → ((nI k).toInt64 &&& 63) = lN k := by decide +kernel
theorem wb_sm : ∀ k, k < 64 → (BitVec.ofNat 64 k).smod 64 = BitVec.ofNat 64 k := by decide +kernel
theorem wb_shl (n : Nat) {k : Nat} (hk : k < 64) : lN n <<< ((nI k).toInt64 &&& 63) = lN (n * 2 ^ k) := by
  rw [wb_c k hk]
  apply wb_inj
  rw [Int64.toBitVec_shiftLeft, wb_tb, wb_tb, wb_tb, wb_sm k hk]
  apply BitVec.eq_of_toNat_eq
  rw [BitVec.shiftLeft_eq', BitVec.toNat_shiftLeft, BitVec.toNat_ofNat, BitVec.toNat_ofNat, BitVec.toNat_ofNat, Nat.mod_eq_of_lt (show k < 2 ^ 64 by omega), Nat.shiftLeft_eq, Nat.mul_mod, Nat.mod_mod, ← Nat.mul_mod]
theorem pf_lI {a : Nat} (h : a < 2 ^ 63) : (lN a).toInt = (a : Int) := lg_ofNat_toInt h
theorem pf_shr {a d : Nat} {D : Int64} (hD : (D.toBitVec.smod 64).toNat = d) (h : a < 2 ^ 62) : lN a >>> D = lN (a / 2 ^ d) := by
  have hd : a / 2 ^ d ≤ a := Nat.div_le_self _ _
  apply Int64.toInt_inj.mp
  have e : (lN a >>> D).toInt = (lN a).toInt >>> d := by
    rw [← hD]
    exact BitVec.toInt_sshiftRight ..
  rw [e, Int.shiftRight_eq_div_pow, pf_lI (by omega), pf_lI (by omega)]
  rfl
theorem J_nI (c : Int) (h0 : 0 ≤ c) : J c = nI c.toNat := by
  have e := (J_nat c.toNat).symm
  rw [show ((c.toNat : Nat) : Int) = c by omega] at e
  exact e
theorem lsh5 (v : Nat) : lN v <<< ((J 5).toInt64 &&& 63) = lN (v * 32) := by
  rw [J_nI 5 (by decide)]
  exact wb_shl v (k := 5) (by decide)
theorem lad (v : Nat) (c : Int) (h0 : 0 ≤ c) (h1 : c < 2147483648) : lN v + (J c).toInt64 = lN (v + c.toNat) := by
  rw [J_nI c h0, nI_l (by omega), lN_add]
/-! codes of letters, a name's number -/
def cdN (g : Nat → Nat) : Nat → Nat
  | 0 => 0
  | n + 1 => 32 * cdN g n + g n
theorem cdN_b {g : Nat → Nat} (hg : ∀ j, g j < 32) : ∀ n, cdN g n < 32 ^ n
  | 0 => by show 0 < 32 ^ 0; decide
  | n + 1 => by
    have := cdN_b hg n
    have h2 := hg n
    show 32 * cdN g n + g n < 32 ^ (n + 1)
    rw [Nat.pow_succ]
    omega
theorem cdN_c {g g' : Nat → Nat} : ∀ n, (∀ j, j < n → g j = g' j) → cdN g n = cdN g' n
  | 0, _ => rfl
  | n + 1, h => by
    show 32 * cdN g n + g n = 32 * cdN g' n + g' n
    rw [cdN_c n (fun j hj => h j (by omega)), h n (by omega)]
theorem cdN_i {g g' : Nat → Nat} (hg : ∀ j, g j < 32) (hg' : ∀ j, g' j < 32) : ∀ n, cdN g n = cdN g' n → ∀ j, j < n → g j = g' j
  | 0, _, j, hj => by omega
  | n + 1, h, j, hj => by
    have h1 : 32 * cdN g n + g n = 32 * cdN g' n + g' n := h
    have a := hg n
    have b := hg' n
    by_cases e : j = n
    · subst e; omega
    · exact cdN_i hg hg' n (by omega) j (by omega)
theorem cdN_d {g : Nat → Nat} (hg : ∀ j, g j < 32) : ∀ n i k, i + k + 1 = n → cdN g n / 32 ^ k % 32 = g i
  | 0, i, k, h => by omega
  | n + 1, i, k, h => by
    have a := hg n
    show (32 * cdN g n + g n) / 32 ^ k % 32 = g i
    cases k with
    | zero =>
      have : i = n := by omega
      subst this
      rw [Nat.pow_zero, Nat.div_one]
      omega
    | succ k =>
      rw [Nat.pow_succ, show 32 ^ k * 32 = 32 * 32 ^ k from Nat.mul_comm _ _, ← Nat.div_div_eq_div_mul, show (32 * cdN g n + g n) / 32 = cdN g n by omega]
      exact cdN_d hg n i k (by omega)
theorem cdN_l {g g' : Nat → Nat} (hg : ∀ j, g j < 32) (hg' : ∀ j, g' j < 32) : ∀ n, cdN g n < cdN g' n ↔ ∃ k, k < n ∧ (∀ j, j < k → g j = g' j) ∧ g k < g' k
  | 0 => by
    constructor
    · intro h; exact absurd h (Nat.lt_irrefl _)
    · rintro ⟨k, hk, -⟩; omega
  | n + 1 => by
    have a := hg n
    have b := hg' n
    have ih := cdN_l hg hg' n
    show 32 * cdN g n + g n < 32 * cdN g' n + g' n ↔ _
    constructor
    · intro h
      by_cases e : cdN g n = cdN g' n
      · exact ⟨n, by omega, cdN_i hg hg' n e, by omega⟩
      · obtain ⟨k, k1, k2, k3⟩ := ih.mp (by omega)
        exact ⟨k, by omega, k2, k3⟩
    · rintro ⟨k, k1, k2, k3⟩
      by_cases e : k = n
      · subst e
        rw [cdN_c k k2]; omega
      · have := ih.mpr ⟨k, by omega, k2, k3⟩
        omega
def nmG (sr : Nat → Int) (p e : Nat) : Nat → Nat := fun j => if p + j < e then (sr (p + j) - 96).toNat else 0
def nmN (sr : Nat → Int) (p e : Nat) : Nat := cdN (nmG sr p e) 7
def nmY (sr : Nat → Int) (p e : Nat) : Int64 := lN (nmN sr p e)
theorem nmG_b {sr : Nat → Int} {p e : Nat} (h : ∀ j, p ≤ j → j < e → isLt (sr j)) : ∀ j, nmG sr p e j < 32 := fun j => by
  unfold nmG
  split
  · have := h (p + j) (by omega) (by omega)
    unfold isLt at this; omega
  · decide
theorem nmN_b {sr : Nat → Int} {p e : Nat} (h : ∀ j, p ≤ j → j < e → isLt (sr j)) : nmN sr p e < 34359738368 := cdN_b (nmG_b h) 7
/-! what stands on the tape -/
section TP
variable {z : Int} {f : Nat → Int}
theorem hereC_f {a : Int} (h0 : 0 ≤ a) (hz : z ≤ 120) : hereC a z f = hereF f z a := by
  unfold hereC hereF
  by_cases c : a < z
  · rw [if_pos ⟨h0, c, by omega⟩, if_pos c]
  · rw [if_neg (by omega), if_neg c]
theorem hereC_l {p : Nat} (hz : z ≤ 120) : (97 ≤ hereC p z f ∧ hereC p z f ≤ 122) ↔ isLt (clip f z p) := by
  rw [hereC_f (by omega) hz, here_l (by omega)]
  exact Iff.rfl
theorem hereC_v {p : Nat} (hz : z ≤ 120) {c : Int} (h : clip f z p = c) (hc : ¬ c = 0) : hereC p z f = c := by
  rw [hereC_f (by omega) hz]
  unfold clip at h; unfold hereF
  split at h
  · rw [if_pos (by assumption)]; exact h
  · omega
/-- a name that is read -/
theorem rnL_v (hz : z ≤ 120) {p e : Nat} (hn : namS (clip f z) p e) : ∀ n i : Nat, i + n = 7 → rnL z f n (if p + i < e then ((p + i : Nat) : Int) else (e : Int)) (lN (cdN (nmG (clip f z) p e) i)) = (nmY (clip f z) p e, (e : Int))
  | 0, i, h => by
    have : i = 7 := by omega
    subst this
    have h2 := hn.2.1
    rw [if_neg (by omega)]
    rfl
  | n + 1, i, h => by
    have ih := rnL_v hz hn n (i + 1) (by omega)
    by_cases c : p + i < e
    · have hl := hn.2.2.1 (p + i) (by omega) c
      have hl2 := hl
      unfold isLt at hl2
      have hv := hereC_v hz (rfl : clip f z (p + i) = _) (by omega)
      have hg : nmG (clip f z) p e i = (clip f z (p + i) - 96).toNat := by unfold nmG; rw [if_pos c]
      rw [if_pos c]
      unfold rnL
      rw [if_pos ((hereC_l hz).mpr hl), lsh5, hv, lad _ _ (by omega) (by omega)]
      have e1 : cdN (nmG (clip f z) p e) i * 32 + (clip f z (p + i) - 97 + 1).toNat = cdN (nmG (clip f z) p e) (i + 1) := by
        show _ = 32 * cdN (nmG (clip f z) p e) i + nmG (clip f z) p e i
        rw [hg]; omega
      rw [e1]
      by_cases c2 : p + (i + 1) < e
      · rw [if_pos c2] at ih
        rw [show ((p + i : Nat) : Int) + 1 = ((p + (i + 1) : Nat) : Int) by omega]
        exact ih
      · rw [if_neg c2] at ih
        rw [show ((p + i : Nat) : Int) + 1 = (e : Int) by omega]
        exact ih
    · have hne : ¬ isLt (clip f z e) := by
        rcases hn.2.2.2 with g | g
        · omega
        · exact g
      have hg : nmG (clip f z) p e i = 0 := by unfold nmG; rw [if_neg c]
      rw [if_neg c]
      unfold rnL
      rw [if_neg (fun g => hne ((hereC_l hz).mp g)), lsh5]
      have e1 : cdN (nmG (clip f z) p e) i * 32 = cdN (nmG (clip f z) p e) (i + 1) := by
        show _ = 32 * cdN (nmG (clip f z) p e) i + nmG (clip f z) p e i
        rw [hg]; omega
      rw [e1]
      rw [if_neg (show ¬ p + (i + 1) < e by omega)] at ih
      exact ih
theorem rnL_w (hz : z ≤ 120) {p e : Nat} (hn : namS (clip f z) p e) : rnL z f 7 p 0 = (nmY (clip f z) p e, (e : Int)) := by
  have y := rnL_v hz hn 7 0 (by omega)
  rw [if_pos (by have := hn.1; omega)] at y
  exact y
/-! numbers -/
theorem rfL_n (hz : z ≤ 120) : ∀ (n : Nat) (q : PS), 0 ≤ q.1 → rfL z f n q.1 q.2.2.1 = ((numL f z n q).2.2.1, (numL f z n q).1)
  | 0, q, _ => rfl
  | n + 1, q, h => by
    unfold rfL numL
    rw [hereC_f h hz]
    by_cases c : 48 ≤ hereF f z q.1 ∧ hereF f z q.1 ≤ 57
    · rw [if_pos c, if_pos c]
      have y := rfL_n hz n (q.1 + 1, q.2.1, 10 * q.2.2.1 + hereF f z q.1 - 48, q.2.2.2) (by show (0 : Int) ≤ q.1 + 1; omega)
      dsimp only at y
      rw [show q.2.2.1 * 10 + hereF f z q.1 - 48 = 10 * q.2.2.1 + hereF f z q.1 - 48 by omega]
      exact y
    · rw [if_neg c, if_neg c]
theorem rfL_a (hz : z ≤ 120) : ∀ (n p : Nat) (v : Int), (rfL z f n p v).1 = naL (clip f z) n p v
  | 0, p, v => rfl
  | n + 1, p, v => by
    unfold rfL naL
    have hd : (48 ≤ hereC p z f ∧ hereC p z f ≤ 57) ↔ (48 ≤ clip f z p ∧ clip f z p ≤ 57) := by
      rw [hereC_f (by omega) hz, here_d (by omega)]
      exact Iff.rfl
    by_cases c : 48 ≤ clip f z p ∧ clip f z p ≤ 57
    · rw [if_pos c, if_pos (hd.mpr c), hereC_v hz (rfl : clip f z p = _) (by omega)]
      have y := rfL_a hz n (p + 1) (v * 10 + clip f z p - 48)
      rw [show ((p + 1 : Nat) : Int) = (p : Int) + 1 by omega] at y
      rw [y, show v * 10 + clip f z p - 48 = 10 * v + clip f z p - 48 by omega]
    · rw [if_neg c, if_neg (fun g => c (hd.mp g))]
end TP
/-- a number with its sign, of so many figures at most -/
def sgV (sr : Nat → Int) (p : Nat) : Int := if sr p = 45 then -(naL sr 5 (p + 1) 0) else naL sr 5 p 0
theorem rvV_a {z : Int} {f : Nat → Int} (hz : z ≤ 120) (p : Nat) : rvV p z f = sgV (clip f z) p := by
  unfold rvV sgV mnP
  by_cases c : clip f z p = 45
  · have h := hereC_v hz c (by decide)
    rw [if_pos h, if_pos h, if_pos c]
    have y := rfL_a (f := f) hz 5 (p + 1) 0
    rw [show ((p + 1 : Nat) : Int) = (p : Int) + 1 by omega] at y
    rw [y]
  · have h : ¬ hereC p z f = 45 := fun g => c (by
      rw [hereC_f (by omega) hz] at g
      have := here_c (by omega) g (by decide)
      exact this)
    rw [if_neg h, if_neg h, if_neg c, rfL_a hz 5 p 0]
/-! the class's reader on (place, fault), beside what the reference reads -/
def ok2 (z : Int) (K : Int × Int) (R : Bool × PS) : Prop := (R.1 = true ∧ K = (R.2.1, -1) ∧ R.2.2.1 = -1) ∨ (R.1 = false ∧ K = (z, R.2.2.1) ∧ 0 ≤ R.2.2.1)
def fgM (z : Int) (f : Nat → Int) (k : Int) (s : Int × Int) : Int × Int := if 0 ≤ hereC s.1 z f - 48 ∧ hereC s.1 z f - 48 < k then (s.1 + 1, s.2) else (z, ftE s.2 s.1)
def fgU (z : Int) (f : Nat → Int) (k : Int) (p : Int) : Int := if 0 ≤ hereC p z f - 48 ∧ hereC p z f - 48 < k then hereC p z f - 48 else 0
def xpM (z : Int) (f : Nat → Int) (c : Int) (s : Int × Int) : Int × Int := if hereC s.1 z f = c then (s.1 + 1, s.2) else (z, ftE s.2 s.1)
def fsM (z : Int) (f : Nat → Int) (m : Nat) (s : Int × Int) : Int × Int := if s.1 < (rfL z f m s.1 0).2 then ((rfL z f m s.1 0).2, s.2) else (z, ftE s.2 s.1)
def vlM (z : Int) (f : Nat → Int) (s : Int × Int) : Int × Int := if mnP s.1 z f < (rfL z f 5 (mnP s.1 z f) 0).2 then ((rfL z f 5 (mnP s.1 z f) 0).2, s.2) else (z, ftE s.2 (mnP s.1 z f))
def fnM (z : Int) (f : Nat → Int) (s : Int × Int) : Int × Int := if s.1 < (rfL z f 2 s.1 0).2 ∧ ¬ (rfL z f 2 s.1 0).1 = 0 then ((rfL z f 2 s.1 0).2, s.2) else (z, ftE s.2 s.1)
noncomputable def nmM (z : Int) (f : Nat → Int) (s : Int × Int) : Int × Int := if 97 ≤ hereC s.1 z f ∧ hereC s.1 z f ≤ 122 then ((rnL z f 7 s.1 0).2, s.2) else (z, ftE s.2 s.1)
/-- behind a fault all stay at the end -/
def idl (z : Int) (K : Int × Int → Int × Int) : Prop := ∀ e : Int, 0 ≤ e → K (z, e) = (z, e)
theorem ftE_s {e i : Int} (h : 0 ≤ e) : ftE e i = e := by unfold ftE; rw [if_neg (by omega)]
theorem ftE_n {i : Int} : ftE (-1) i = i := by unfold ftE; rw [if_pos (by decide)]
theorem hereC_e {z : Int} {f : Nat → Int} : hereC z z f = -1 := hereC_z z f
theorem rfL_e {z : Int} {f : Nat → Int} {n : Nat} {u : Int} : rfL z f n z u = (u, z) := by
  cases n with
  | zero => rfl
  | succ n => unfold rfL; rw [hereC_e, if_neg (by decide)]
theorem xpM_i {z : Int} {f : Nat → Int} {c : Int} (hc : ¬ c = -1) : idl z (xpM z f c) := fun e he => by
  unfold xpM; dsimp only; rw [hereC_e, if_neg (fun g => hc g.symm), ftE_s he]
theorem fsM_i {z : Int} {f : Nat → Int} {m : Nat} : idl z (fsM z f m) := fun e he => by
  unfold fsM; dsimp only; rw [rfL_e, if_neg (by dsimp only; omega), ftE_s he]
theorem vlM_i {z : Int} {f : Nat → Int} : idl z (vlM z f) := fun e he => by
  have em : mnP z z f = z := by unfold mnP; rw [hereC_e, if_neg (by decide)]
  unfold vlM; dsimp only; rw [em, rfL_e, if_neg (by dsimp only; omega), ftE_s he]
/-- one behind another -/
theorem ok2_and {z : Int} {K1 : Int × Int} {K2 : Int × Int → Int × Int} {R1 : Bool × PS} {R2 : PS → Bool × PS} (h1 : ok2 z K1 R1) (hi : idl z K2) (h2 : R1.1 = true → R1.2.2.1 = -1 → ok2 z (K2 (R1.2.1, -1)) (R2 R1.2)) : ok2 z (K2 K1) (andR R1 R2) := by
  rcases h1 with ⟨a, b, c⟩ | ⟨a, b, c⟩
  · rw [andR_t a, b]; exact h2 a c
  · rw [andR_f (by rw [a]; decide), b, hi _ c]
    exact Or.inr ⟨a, rfl, c⟩
section OK
variable {z : Int} {f : Nat → Int}
theorem numL_e : ∀ (n : Nat) (q : PS), (numL f z n q).2.1 = q.2.1
  | 0, q => rfl
  | n + 1, q => by
    unfold numL
    split
    · rw [numL_e n]
    · rfl
theorem nR_y {n : Nat} {l m : Int} {q : PS} (h : (nR f z n l m q).1 = true) : (48 ≤ hereF f z q.1 ∧ hereF f z q.1 ≤ 57) ∧ (nR f z n l m q).2 = numL f z n (q.1, q.2.1, 0, q.2.2.2) ∧ l ≤ (numL f z n (q.1, q.2.1, 0, q.2.2.2)).2.2.1 ∧ (numL f z n (q.1, q.2.1, 0, q.2.2.2)).2.2.1 ≤ m := by
  have hb : numberB f z n l m q := by simpa [nR] using h
  obtain ⟨h1, h2⟩ := hb
  refine ⟨h1, ?_, h2⟩
  show numberF f z n l m q = _
  unfold numberF
  rw [if_pos h1]
  unfold finF
  rw [if_pos h2]
theorem nR_f {n : Nat} {l m : Int} {q : PS} (he : q.2.1 = -1) (h : (nR f z n l m q).1 = false) : (nR f z n l m q).2.2.1 = q.1 := by
  have hb : ¬ numberB f z n l m q := by
    have : decide (numberB f z n l m q) = false := h
    exact of_decide_eq_false this
  show (numberF f z n l m q).2.1 = q.1
  unfold numberF
  by_cases c : 48 ≤ hereF f z q.1 ∧ hereF f z q.1 ≤ 57
  · rw [if_pos c]
    unfold finF
    rw [if_neg (fun g => hb ⟨c, g⟩)]
    unfold failF
    dsimp only
    rw [numL_e, he, if_pos (by decide)]
  · rw [if_neg c]
    unfold failF
    dsimp only
    rw [he, if_pos (by decide)]
theorem nR_1 {n : Nat} {l m : Int} {q : PS} (h0 : 0 ≤ q.1) (h : 48 ≤ hereF f z q.1 ∧ hereF f z q.1 ≤ 57) : q.1 < (numL f z (n + 1) (q.1, q.2.1, 0, q.2.2.2)).1 := by
  unfold numL
  rw [if_pos h]
  obtain ⟨a, -, -, -⟩ := numL_rd (sr := f) (len := z) n (q.1 + 1, q.2.1, 10 * 0 + hereF f z q.1 - 48, q.2.2.2) (by show (0 : Int) ≤ q.1 + 1; omega)
  dsimp only at a ⊢
  omega
theorem ok_fig {k : Int} {q : PS} (h0 : 0 ≤ q.1) (hz : z ≤ 120) (he : q.2.1 = -1) (hk : k ≤ 9) : ok2 z (fgM z f (k + 1) (q.1, -1)) (nR f z 1 0 k q) := by
  have e1 : ∀ (c : 48 ≤ hereF f z q.1 ∧ hereF f z q.1 ≤ 57), numL f z 1 (q.1, q.2.1, 0, q.2.2.2) = (q.1 + 1, q.2.1, 10 * 0 + hereF f z q.1 - 48, q.2.2.2) := fun c => by
    unfold numL; rw [if_pos c]; rfl
  cases hR : (nR f z 1 0 k q).1 with
  | true =>
    obtain ⟨a, b, c, d⟩ := nR_y hR
    rw [e1 a] at b c d
    dsimp only at c d
    refine Or.inl ⟨hR, ?_, by rw [b]; exact he⟩
    unfold fgM; dsimp only
    rw [hereC_f h0 hz, if_pos (by omega), b]
  | false =>
    have b := nR_f he hR
    refine Or.inr ⟨hR, ?_, by omega⟩
    have hb : ¬ numberB f z 1 0 k q := by
      have : decide (numberB f z 1 0 k q) = false := hR
      exact of_decide_eq_false this
    unfold fgM; dsimp only
    rw [hereC_f h0 hz, b, if_neg, ftE_n]
    intro g
    have c : 48 ≤ hereF f z q.1 ∧ hereF f z q.1 ≤ 57 := by omega
    refine hb ⟨c, ?_⟩
    rw [e1 c]
    dsimp only
    omega
theorem ok_exp {c : Int} {q : PS} (h0 : 0 ≤ q.1) (hz : z ≤ 120) (he : q.2.1 = -1) : ok2 z (xpM z f c (q.1, -1)) (gR f z c q) := by
  unfold xpM; dsimp only
  rw [hereC_f h0 hz]
  by_cases h : hereF f z q.1 = c
  · rw [if_pos h]
    have e : signF f z c q = advF q := by unfold signF; rw [if_pos h]
    refine Or.inl ⟨decide_eq_true h, ?_, ?_⟩
    · show _ = ((signF f z c q).1, -1)
      rw [e]; rfl
    · show (signF f z c q).2.1 = -1
      rw [e]; exact he
  · rw [if_neg h, ftE_n]
    have e : signF f z c q = failF q.1 q := by unfold signF; rw [if_neg h]
    have e2 : (failF q.1 q).2.1 = q.1 := by unfold failF; dsimp only; rw [he, if_pos (by decide)]
    refine Or.inr ⟨decide_eq_false h, ?_, ?_⟩
    · show _ = (z, (signF f z c q).2.1)
      rw [e, e2]
    · show 0 ≤ (signF f z c q).2.1
      rw [e, e2]; exact h0
theorem rfL_s {n : Nat} {q : PS} (h0 : 0 ≤ q.1) (hz : z ≤ 120) : rfL z f n q.1 0 = ((numL f z n (q.1, q.2.1, 0, q.2.2.2)).2.2.1, (numL f z n (q.1, q.2.1, 0, q.2.2.2)).1) :=
  rfL_n hz n (q.1, q.2.1, 0, q.2.2.2) h0
theorem rfL_0 {n : Nat} {p : Int} (h0 : 0 ≤ p) (hz : z ≤ 120) (h : ¬ (48 ≤ hereF f z p ∧ hereF f z p ≤ 57)) : rfL z f n p 0 = (0, p) := by
  cases n with
  | zero => rfl
  | succ n => unfold rfL; rw [hereC_f h0 hz, if_neg h]
theorem numL_v : ∀ (n : Nat) (q : PS), 0 ≤ q.2.2.1 → 0 ≤ (numL f z n q).2.2.1 ∧ (numL f z n q).2.2.1 < (q.2.2.1 + 1) * tenP n
  | 0, q, h => by unfold numL tenP; omega
  | n + 1, q, h => by
    unfold numL
    have t := tenP_1 n
    split
    · rename_i c
      have y := numL_v n (q.1 + 1, q.2.1, 10 * q.2.2.1 + hereF f z q.1 - 48, q.2.2.2) (by show (0 : Int) ≤ 10 * q.2.2.1 + hereF f z q.1 - 48; omega)
      dsimp only at y
      refine ⟨y.1, Int.lt_of_lt_of_le y.2 ?_⟩
      show _ ≤ (q.2.2.1 + 1) * (10 * tenP n)
      rw [← Int.mul_assoc]
      exact Int.mul_le_mul_of_nonneg_right (by omega) (by omega)
    · refine ⟨h, ?_⟩
      show _ < (q.2.2.1 + 1) * (10 * tenP n)
      have : (q.2.2.1 + 1) * 1 ≤ (q.2.2.1 + 1) * (10 * tenP n) := Int.mul_le_mul_of_nonneg_left (by omega) (by omega)
      omega
theorem ok_figs {q : PS} (h0 : 0 ≤ q.1) (hz : z ≤ 120) (he : q.2.1 = -1) : ok2 z (fsM z f 2 (q.1, -1)) (nR f z 2 0 99 q) := by
  have e1 := rfL_s (f := f) (n := 2) h0 hz
  have ev := numL_v (f := f) (z := z) 2 (q.1, q.2.1, 0, q.2.2.2) (Int.le_refl _)
  have et : ((q.1, q.2.1, (0 : Int), q.2.2.2) : PS).2.2.1 = 0 := rfl
  rw [et, show ((0 : Int) + 1) * tenP 2 = 100 by decide] at ev
  cases hR : (nR f z 2 0 99 q).1 with
  | true =>
    obtain ⟨a, b, c, d⟩ := nR_y hR
    refine Or.inl ⟨hR, ?_, by rw [b, numL_e]; exact he⟩
    unfold fsM; dsimp only
    rw [e1, if_pos (nR_1 (n := 1) (l := 0) (m := 99) h0 a), b]
  | false =>
    have b := nR_f he hR
    refine Or.inr ⟨hR, ?_, by omega⟩
    have hb : ¬ numberB f z 2 0 99 q := by
      have : decide (numberB f z 2 0 99 q) = false := hR
      exact of_decide_eq_false this
    have hd : ¬ (48 ≤ hereF f z q.1 ∧ hereF f z q.1 ≤ 57) := fun c => hb ⟨c, by omega⟩
    unfold fsM; dsimp only
    rw [rfL_0 h0 hz hd, if_neg (by dsimp only; omega), b, ftE_n]
theorem ok_fn {q : PS} (h0 : 0 ≤ q.1) (hz : z ≤ 120) (he : q.2.1 = -1) : ok2 z (fnM z f (q.1, -1)) (nR f z 2 1 99 q) := by
  have e1 := rfL_s (f := f) (n := 2) h0 hz
  have ev := numL_v (f := f) (z := z) 2 (q.1, q.2.1, 0, q.2.2.2) (Int.le_refl _)
  have et : ((q.1, q.2.1, (0 : Int), q.2.2.2) : PS).2.2.1 = 0 := rfl
  rw [et, show ((0 : Int) + 1) * tenP 2 = 100 by decide] at ev
  cases hR : (nR f z 2 1 99 q).1 with
  | true =>
    obtain ⟨a, b, c, d⟩ := nR_y hR
    refine Or.inl ⟨hR, ?_, by rw [b, numL_e]; exact he⟩
    unfold fnM; dsimp only
    rw [e1, if_pos ⟨nR_1 (n := 1) (l := 0) (m := 99) h0 a, by dsimp only; omega⟩, b]
  | false =>
    have b := nR_f he hR
    refine Or.inr ⟨hR, ?_, by omega⟩
    have hb : ¬ numberB f z 2 1 99 q := by
      have : decide (numberB f z 2 1 99 q) = false := hR
      exact of_decide_eq_false this
    unfold fnM; dsimp only
    by_cases hd : 48 ≤ hereF f z q.1 ∧ hereF f z q.1 ≤ 57
    · have : (numL f z 2 (q.1, q.2.1, 0, q.2.2.2)).2.2.1 = 0 := by
        by_cases c : (numL f z 2 (q.1, q.2.1, 0, q.2.2.2)).2.2.1 = 0
        · exact c
        · exact absurd ⟨hd, by omega, by omega⟩ hb
      rw [e1, if_neg (fun g => g.2 this), b, ftE_n]
    · rw [rfL_0 h0 hz hd, if_neg (fun g => g.2 rfl), b, ftE_n]
theorem ok_val {q : PS} (h0 : 0 ≤ q.1) (hz : z ≤ 120) (he : q.2.1 = -1) : ok2 z (vlM z f (q.1, -1)) (vR f z q) := by
  have em : mnP q.1 z f = (minusF f z q).1 := by
    unfold mnP minusF
    rw [hereC_f h0 hz]
    by_cases c : hereF f z q.1 = 45
    · rw [if_pos c, b01_t c]
    · rw [if_neg c, b01_f c]; exact (Int.add_zero _).symm
  have e0 : (minusF f z q).2.1 = -1 := he
  have hm0 : 0 ≤ (minusF f z q).1 := by rw [← em]; unfold mnP; split <;> omega
  show ok2 z _ (nR f z 5 0 99999 (minusF f z q))
  have e1 := rfL_s (f := f) (n := 5) (q := minusF f z q) hm0 hz
  have ev := numL_v (f := f) (z := z) 5 ((minusF f z q).1, (minusF f z q).2.1, 0, (minusF f z q).2.2.2) (Int.le_refl _)
  have et : (((minusF f z q).1, (minusF f z q).2.1, (0 : Int), (minusF f z q).2.2.2) : PS).2.2.1 = 0 := rfl
  rw [et, show ((0 : Int) + 1) * tenP 5 = 100000 by decide] at ev
  cases hR : (nR f z 5 0 99999 (minusF f z q)).1 with
  | true =>
    obtain ⟨a, b, c, d⟩ := nR_y hR
    refine Or.inl ⟨hR, ?_, by rw [b, numL_e]; exact e0⟩
    unfold vlM; dsimp only
    rw [em, e1, if_pos (nR_1 (n := 4) (l := 0) (m := 99) hm0 a), b]
  | false =>
    have b := nR_f e0 hR
    refine Or.inr ⟨hR, ?_, by omega⟩
    have hb : ¬ numberB f z 5 0 99999 (minusF f z q) := by
      have : decide (numberB f z 5 0 99999 (minusF f z q)) = false := hR
      exact of_decide_eq_false this
    have hd : ¬ (48 ≤ hereF f z (minusF f z q).1 ∧ hereF f z (minusF f z q).1 ≤ 57) := fun c => hb ⟨c, by omega⟩
    unfold vlM; dsimp only
    rw [em, rfL_0 hm0 hz hd, if_neg (by dsimp only; omega), b, ftE_n]
theorem ok_name {q : PS} (h0 : 0 ≤ q.1) (hz : z ≤ 120) (he : q.2.1 = -1) : ok2 z (nmM z f (q.1, -1)) (aR f z q) := by
  by_cases h : nameB f z q
  · have hR : (aR f z q).1 = true := decide_eq_true h
    obtain ⟨n1, n2, n3⟩ := aR_rd h0 hR
    have e := rnL_w hz n1
    refine Or.inl ⟨hR, ?_, by rw [n3]; exact he⟩
    unfold nmM; dsimp only
    rw [hereC_f h0 hz, if_pos h]
    rw [show ((q.1.toNat : Nat) : Int) = q.1 by omega] at e
    rw [e]
    dsimp only
    rw [show (((aR f z q).2.1.toNat : Nat) : Int) = (aR f z q).2.1 by omega]
  · have hR : (aR f z q).1 = false := decide_eq_false h
    have e : (aR f z q).2 = failF q.1 q := by
      show nameF f z q = _
      unfold nameF; rw [if_neg h]
    have e2 : (failF q.1 q).2.1 = q.1 := by unfold failF; dsimp only; rw [he, if_pos (by decide)]
    refine Or.inr ⟨hR, ?_, by rw [e, e2]; exact h0⟩
    unfold nmM; dsimp only
    rw [hereC_f h0 hz, if_neg h, e, e2, ftE_n]
end OK
end mg_9o

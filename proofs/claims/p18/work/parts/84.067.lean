section mg_92
set_option maxHeartbeats 4000000 in
set_option maxRecDepth 100000 in
theorem cq_addScope {G : mG} {l : Launch} (d : Nat) {h : mH} {w : Nat} {c : Nat → Int} {C : Nat → Nat → Int} {nm : Nat → Int64} {g : Nat → Option Nat} (hW : isW h w c C nm g) (hc : ∀ q, InR (c q)) {S Z : Nat} (hS : c 1 = (S : Int)) (hcap : S < 60) (hZ : c 10 = (Z : Int)) (hcapZ : Z < 150) {i k : Int} (hi : InR i) (hk : InR k) : RUNM G l (d + 1) mX9_addScope [.ref w, .int (J i), .int (J k)] h (fun v h' => v = some (.int (J (S : Int))) ∧ isW h' w (adE (asC c S i k) Z) (updC C 2 (updI (C 2) Z (100 + (S : Int)))) nm g ∧ Same (wBlk w) h h') := by
  refine RUNM.of (by decide +kernel) (Nat.le_of_ble_eq_true rfl) ?_
  refine r_aload_n (pc := 0) dX9_addScope_0 rfl (by first | rfl | exact isRefV_rf _) ?_
  refine r_getf (pc := 1) dX9_addScope_1 fX9_57 (by first | assumption | exact isI.gx (by assumption) | exact isI.gc (by assumption) | exact isW.gx (by assumption) | exact isW.gF (by assumption) | exact isW.gT (by assumption) (by omega) | exact isW.gS (by assumption) (by omega) | exact isW.gK (by assumption) (by omega) | exact isW.g1 (by assumption) | exact isW.g2 (by assumption) | exact isW.g3 (by assumption) | exact isI.gx (isW.i0 (by assumption)) | exact isI.gc (isW.i0 (by assumption)) | exact isI.gx (isW.i1 (by assumption)) | exact isI.gc (isW.i1 (by assumption)) | exact isI.gx (isW.i2 (by assumption)) | exact isI.gc (isW.i2 (by assumption)) | exact isI.gx (isW.i3 (by assumption)) | exact isI.gc (isW.i3 (by assumption)) | exact isI.gx (isW.i4 (by assumption)) | exact isI.gc (isW.i4 (by assumption)) | exact isI.gx (isW.i5 (by assumption)) | exact isI.gc (isW.i5 (by assumption)) | exact isR.gx (by assumption) | exact isRd.gx (by assumption) | exact isSp.gx (by assumption) | exact isI.gx (isR.i (by assumption)) | exact isI.gx (isRd.i (by assumption)) | exact isI.gc (isRd.i (by assumption)) | exact isI.gx (isSp.i (by assumption)) | exact isW.gx (isR.w (by assumption)) | exact isW.gF (isR.w (by assumption)) | fail "no such object") (by rfl) ?_
  rw [hS]
  refine r_istore_n (pc := 4) dX9_addScope_4 (Nat.le_of_ble_eq_true rfl) ?_
  dsimp only [lsSt, List.set, mLs, mEnt]
  refine r_aload_n (pc := 5) dX9_addScope_5 rfl (by first | rfl | exact isRefV_rf _) ?_
  refine r_dup (pc := 6) dX9_addScope_6 (by first | rfl | (cases ‹Option Nat› <;> rfl)) ?_
  refine r_getf (pc := 7) dX9_addScope_7 fX9_57 (by first | assumption | exact isI.gx (by assumption) | exact isI.gc (by assumption) | exact isW.gx (by assumption) | exact isW.gF (by assumption) | exact isW.gT (by assumption) (by omega) | exact isW.gS (by assumption) (by omega) | exact isW.gK (by assumption) (by omega) | exact isW.g1 (by assumption) | exact isW.g2 (by assumption) | exact isW.g3 (by assumption) | exact isI.gx (isW.i0 (by assumption)) | exact isI.gc (isW.i0 (by assumption)) | exact isI.gx (isW.i1 (by assumption)) | exact isI.gc (isW.i1 (by assumption)) | exact isI.gx (isW.i2 (by assumption)) | exact isI.gc (isW.i2 (by assumption)) | exact isI.gx (isW.i3 (by assumption)) | exact isI.gc (isW.i3 (by assumption)) | exact isI.gx (isW.i4 (by assumption)) | exact isI.gc (isW.i4 (by assumption)) | exact isI.gx (isW.i5 (by assumption)) | exact isI.gc (isW.i5 (by assumption)) | exact isR.gx (by assumption) | exact isRd.gx (by assumption) | exact isSp.gx (by assumption) | exact isI.gx (isR.i (by assumption)) | exact isI.gx (isRd.i (by assumption)) | exact isI.gc (isRd.i (by assumption)) | exact isI.gx (isSp.i (by assumption)) | exact isW.gx (isR.w (by assumption)) | exact isW.gF (isR.w (by assumption)) | fail "no such object") (by rfl) ?_
  rw [hS]
  refine rj_iconst (pc := 10) dX9_addScope_10 ?_
  refine rj_iadd (pc := 11) dX9_addScope_11 ?_
  refine rc_putw1 (pc := 12) dX9_addScope_12 fX9_57 (by assumption) (fun h_12 hW_12 hS_12 => ?_)
  have hc2 := updI_r hc (k := 1) (v := (S : Int) + 1) ⟨by omega, by omega⟩
  have e1 : updI c 1 ((S : Int) + 1) 1 = (S : Int) + 1 := updI_s
  refine r_aload_n (pc := 15) dX9_addScope_15 rfl (by first | rfl | exact isRefV_rf _) ?_
  refine r_iload_n (pc := 16) dX9_addScope_16 rfl ?_
  refine r_callV1 (pc := 17) dX9_addScope_17 qX9_scopeAt kX9_61 vX9_scopeAt (by first | assumption | exact isI.gx (by assumption) | exact isI.gc (by assumption) | exact isW.gx (by assumption) | exact isW.gF (by assumption) | exact isW.gT (by assumption) (by omega) | exact isW.gS (by assumption) (by omega) | exact isW.gK (by assumption) (by omega) | exact isW.g1 (by assumption) | exact isW.g2 (by assumption) | exact isW.g3 (by assumption) | exact isI.gx (isW.i0 (by assumption)) | exact isI.gc (isW.i0 (by assumption)) | exact isI.gx (isW.i1 (by assumption)) | exact isI.gc (isW.i1 (by assumption)) | exact isI.gx (isW.i2 (by assumption)) | exact isI.gc (isW.i2 (by assumption)) | exact isI.gx (isW.i3 (by assumption)) | exact isI.gc (isW.i3 (by assumption)) | exact isI.gx (isW.i4 (by assumption)) | exact isI.gc (isW.i4 (by assumption)) | exact isI.gx (isW.i5 (by assumption)) | exact isI.gc (isW.i5 (by assumption)) | exact isR.gx (by assumption) | exact isRd.gx (by assumption) | exact isSp.gx (by assumption) | exact isI.gx (isR.i (by assumption)) | exact isI.gx (isRd.i (by assumption)) | exact isI.gc (isRd.i (by assumption)) | exact isI.gx (isSp.i (by assumption)) | exact isW.gx (isR.w (by assumption)) | exact isW.gF (isR.w (by assumption)) | fail "no such object") rfl rfl (Nat.le_of_ble_eq_true rfl) (cw_scopeAt _ hW_12 hc2 (i := (S : Int)) ⟨by omega, by omega⟩) (fun v_17 h_17 q_17 => ?_)
  obtain ⟨q1_17, rfl⟩ := q_17
  · obtain rfl := scAt_P (by omega) q1_17
    refine r_astore (pc := 20) dX9_addScope_20 (Nat.le_of_ble_eq_true rfl) (by first | rfl | exact isRefV_rf _) ?_
    dsimp only [lsSt, List.set, mLs, mEnt]
    refine r_aload (pc := 22) dX9_addScope_22 rfl (by first | rfl | exact isRefV_rf _) ?_
    refine r_ifnonnull (pc := 24) (tgt := 34) dX9_addScope_24 (by decide) (by first | rfl | exact isRefV_rf _) (fun a_24 c_24 => ?_) (fun c_24 => by cases c_24)
    rw [Int.toNat_natCast]
    refine r_aload (pc := 34) dX9_addScope_34 rfl (by first | rfl | exact isRefV_rf _) ?_
    refine rj_iconst (pc := 36) dX9_addScope_36 ?_
    refine rc_putS0 (pc := 37) dX9_addScope_37 fX9_127 (by assumption) (by omega) (fun h_37 hW_37 hS_37 => ?_)
    refine r_aload (pc := 40) dX9_addScope_40 rfl (by first | rfl | exact isRefV_rf _) ?_
    refine r_iload_n (pc := 42) dX9_addScope_42 rfl ?_
    refine rc_putS1 (pc := 43) dX9_addScope_43 fX9_65 (by assumption) (by omega) (fun h_43 hW_43 hS_43 => ?_)
    refine r_aload (pc := 46) dX9_addScope_46 rfl (by first | rfl | exact isRefV_rf _) ?_
    refine r_iload_n (pc := 48) dX9_addScope_48 rfl ?_
    refine rc_putS2 (pc := 49) dX9_addScope_49 fX9_68 (by assumption) (by omega) (fun h_49 hW_49 hS_49 => ?_)
    refine r_aload_n (pc := 52) dX9_addScope_52 rfl (by first | rfl | exact isRefV_rf _) ?_
    refine r_getf (pc := 53) dX9_addScope_53 fX9_41 (by first | assumption | exact isI.gx (by assumption) | exact isI.gc (by assumption) | exact isW.gx (by assumption) | exact isW.gF (by assumption) | exact isW.gT (by assumption) (by omega) | exact isW.gS (by assumption) (by omega) | exact isW.gK (by assumption) (by omega) | exact isW.g1 (by assumption) | exact isW.g2 (by assumption) | exact isW.g3 (by assumption) | exact isI.gx (isW.i0 (by assumption)) | exact isI.gc (isW.i0 (by assumption)) | exact isI.gx (isW.i1 (by assumption)) | exact isI.gc (isW.i1 (by assumption)) | exact isI.gx (isW.i2 (by assumption)) | exact isI.gc (isW.i2 (by assumption)) | exact isI.gx (isW.i3 (by assumption)) | exact isI.gc (isW.i3 (by assumption)) | exact isI.gx (isW.i4 (by assumption)) | exact isI.gc (isW.i4 (by assumption)) | exact isI.gx (isW.i5 (by assumption)) | exact isI.gc (isW.i5 (by assumption)) | exact isR.gx (by assumption) | exact isRd.gx (by assumption) | exact isSp.gx (by assumption) | exact isI.gx (isR.i (by assumption)) | exact isI.gx (isRd.i (by assumption)) | exact isI.gc (isRd.i (by assumption)) | exact isI.gx (isSp.i (by assumption)) | exact isW.gx (isR.w (by assumption)) | exact isW.gF (isR.w (by assumption)) | fail "no such object") (by rfl) ?_
    refine rj_bipush (pc := 56) dX9_addScope_56 (by decide +kernel) ?_
    refine r_iload_n (pc := 58) dX9_addScope_58 rfl ?_
    refine rj_iadd (pc := 59) dX9_addScope_59 ?_
    have hW_60 : isW h_49 w (asC c S i k) C nm g := hW_49
    have e10 : asC c S i k (8 + 2) = (Z : Int) := by unfold asC; rw [updI_n (by omega), updI_n (by omega), updI_n (by omega), updI_n (by omega)]; exact hZ
    have i2 := hW_60.i2
    rw [show asC c S i k 10 = (Z : Int) from e10] at i2
    refine r_callV1 (pc := 60) dX9_addScope_60 qX1_append kX9_123 vX1_append (by first | assumption | exact isI.gx (by assumption) | exact isI.gc (by assumption) | exact isW.gx (by assumption) | exact isW.gF (by assumption) | exact isW.gT (by assumption) (by omega) | exact isW.gS (by assumption) (by omega) | exact isW.gK (by assumption) (by omega) | exact isW.g1 (by assumption) | exact isW.g2 (by assumption) | exact isW.g3 (by assumption) | exact isI.gx (isW.i0 (by assumption)) | exact isI.gc (isW.i0 (by assumption)) | exact isI.gx (isW.i1 (by assumption)) | exact isI.gc (isW.i1 (by assumption)) | exact isI.gx (isW.i2 (by assumption)) | exact isI.gc (isW.i2 (by assumption)) | exact isI.gx (isW.i3 (by assumption)) | exact isI.gc (isW.i3 (by assumption)) | exact isI.gx (isW.i4 (by assumption)) | exact isI.gc (isW.i4 (by assumption)) | exact isI.gx (isW.i5 (by assumption)) | exact isI.gc (isW.i5 (by assumption)) | exact isR.gx (by assumption) | exact isRd.gx (by assumption) | exact isSp.gx (by assumption) | exact isI.gx (isR.i (by assumption)) | exact isI.gx (isRd.i (by assumption)) | exact isI.gc (isRd.i (by assumption)) | exact isI.gx (isSp.i (by assumption)) | exact isW.gx (isR.w (by assumption)) | exact isW.gF (isR.w (by assumption)) | fail "no such object") rfl rfl (Nat.le_of_ble_eq_true rfl) (ci_append _ i2 (by decide) ⟨by omega, by omega⟩ (100 + (S : Int))) (fun v_60 h_60 q_60 => ?_)
    obtain ⟨rfl, I_60, S_60⟩ := q_60
    rw [if_pos (by omega), if_pos (by omega)] at I_60
    have hW_61 := hW_60.ofI (j := 2) (by decide) S_60 I_60
    refine r_pop (pc := 63) dX9_addScope_63 (by first | rfl | (cases ‹Option Nat› <;> rfl)) ?_
    refine r_iload_n (pc := 64) dX9_addScope_64 rfl ?_
    refine r_ireturn (pc := 65) .int dX9_addScope_65 rfl (by first | rfl | assumption) ?_
    exact ⟨rfl, hW_61, ((((hS_12.trans hS_37).trans hS_43).trans hS_49).trans (S_60.mono (fun b hb => iBlk_wBlk (j := 2) hb)))⟩
end mg_92

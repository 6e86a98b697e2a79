/-! ===== the class: scopes and tasks that come, things that move, faults that are gathered ===== -/
def asC (c : Nat → Int) (S : Nat) (i k : Int) : Nat → Int := updI (updI (updI (updI c 1 ((S : Int) + 1)) (304 + 3 * S) 0) (305 + 3 * S) i) (306 + 3 * S) k
set_option maxHeartbeats 4000000 in
set_option maxRecDepth 100000 in
theorem cq_addScope {G : mG} {l : Launch} (d : Nat) {h : mH} {w : Nat} {c : Nat → Int} {C : Nat → Nat → Int} {nm : Nat → Int64} {g : Nat → Option Nat} (hW : isW h w c C nm g) (hc : ∀ q, InR (c q)) {S Z : Nat} (hS : c 1 = (S : Int)) (hcap : S < 60) (hZ : c 10 = (Z : Int)) (hcapZ : Z < 150) {i k : Int} (hi : InR i) (hk : InR k) : RUNM G l (d + 1) mX9_addScope [.ref w, .int (J i), .int (J k)] h (fun v h' => v = some (.int (J (S : Int))) ∧ isW h' w (adE (asC c S i k) Z) (updC C 2 (updI (C 2) Z (100 + (S : Int)))) nm g ∧ Same (wBlk w) h h') := by
  refine RUNM.of (by decide +kernel) (Nat.le_of_ble_eq_true rfl) ?_
  refine r_aload_n (pc := 0) dX9_addScope_0 rfl (by first | rfl | exact isRefV_rf _) ?_
  refine r_getf (pc := 1) dX9_addScope_1 fX9_57 (by first | assumption | exact isI.gx (by assumption) | exact isI.gc (by assumption) | exact isW.gx (by assumption) | exact isW.gF (by assumption) | exact isW.gT (by assumption) (by omega) | exact isW.gS (by assumption) (by omega) | exact isW.gK (by assumption) (by omega) | exact isW.g1 (by assumption) | exact isW.g2 (by assumption) | exact isW.g3 (by assumption) | exact isI.gx (isW.i0 (by assumption)) | exact isI.gc (isW.i0 (by assumption)) | exact isI.gx (isW.i1 (by assumption)) | exact isI.gc (isW.i1 (by assumption)) | exact isI.gx (isW.i2 (by assumption)) | exact isI.gc (isW.i2 (by assumption)) | exact isI.gx (isW.i3 (by assumption)) | exact isI.gc (isW.i3 (by assumption)) | exact isI.gx (isW.i4 (by assumption)) | exact isI.gc (isW.i4 (by assumption)) | exact isI.gx (isW.i5 (by assumption)) | exact isI.gc (isW.i5 (by assumption)) | exact isR.gx (by assumption) | exact isRd.gx (by assumption) | exact isSp.gx (by assumption) | exact isI.gx (isR.i (by assumption)) | exact isI.gx (isRd.i (by assumption)) | exact isI.gc (isRd.i (by assumption)) | exact isI.gx (isSp.i (by assumption)) | exact isW.gx (isR.w (by assumption)) | exact isW.gF (isR.w (by assumption)) | fail "no such object") (by rfl) ?_
  rw [hS]
  refine r_istore_n (pc := 4) dX9_addScope_4 (Nat.le_of_ble_eq_true rfl) ?_
  dsimp only [lsSt, List.set, mLs, mEnt]
  refine r_aload_n (pc := 5) dX9_addScope_5 rfl (by first | rfl | exact isRefV_rf _) ?_
  refine r_dup (pc := 6) dX9_addScope_6 (by first | rfl | (cases ‹Option Nat› <;> rfl)) ?_
  refine r_getf (pc := 7) dX9_addScope_7 fX9_57 (by first | assumption | exact isI.gx (by assumption) | exact isI.gc (by assumption) | exact isW.gx (by assumption) | exact isW.gF (by assumption) | exact isW.gT (by assumption) (by omega) | exact isW.gS (by assumption) (by omega) | exact isW.gK (by assumption) (by omega) | exact isW.g1 (by assumption) | exact isW.g2 (by assumption) | exact isW.g3 (by assumption) | exact isI.gx (isW.i0 (by assumption)) | exact isI.gc (isW.i0 (by assumption)) | exact isI.gx (isW.i1 (by assumption)) | exact isI.gc (isW.i1 (by assumption)) | exact isI.gx (isW.i2 (by assumption)) | exact isI.gc (isW.i2 (by assumption)) | exact isI.gx (isW.i3 (by assumption)) | exact isI.gc (isW.i3 (by assumption)) | exact isI.gx (isW.i4 (by assumption)) | exact isI.gc (isW.i4 (by assumption)) | exact isI.gx (isW.i5 (by assumption)) | exact isI.gc (isW.i5 (by assumption)) | exact isR.gx (by assumption) | exact isRd.gx (by assumption) | exact isSp.gx (by assumption) | exact isI.gx (isR.i (by assumption)) | exact isI.gx (isRd.i (by assumption)) | exact isI.gc (isRd.i (by assumption)) | exact isI.gx (isSp.i (by assumption)) | exact isW.gx (isR.w (by assumption)) | exact isW.gF (isR.w (by assumption)) | fail "no such object") (by rfl) ?_
  rw [hS]
  refine rj_iconst (pc := 10) dX9_addScope_10 ?_
  refine rj_iadd (pc := 11) dX9_addScope_11 ?_
  refine rc_putw1 (pc := 12) dX9_addScope_12 fX9_57 (by assumption) (fun h_12 hW_12 hS_12 => ?_)
  have hc2 := updI_r hc (k := 1) (v := (S : Int) + 1) ⟨by omega, by omega⟩
  have e1 : updI c 1 ((S : Int) + 1) 1 = (S : Int) + 1 := updI_s
  refine r_aload_n (pc := 15) dX9_addScope_15 rfl (by first | rfl | exact isRefV_rf _) ?_
  refine r_iload_n (pc := 16) dX9_addScope_16 rfl ?_
  refine r_callV1 (pc := 17) dX9_addScope_17 qX9_scopeAt kX9_61 vX9_scopeAt (by first | assumption | exact isI.gx (by assumption) | exact isI.gc (by assumption) | exact isW.gx (by assumption) | exact isW.gF (by assumption) | exact isW.gT (by assumption) (by omega) | exact isW.gS (by assumption) (by omega) | exact isW.gK (by assumption) (by omega) | exact isW.g1 (by assumption) | exact isW.g2 (by assumption) | exact isW.g3 (by assumption) | exact isI.gx (isW.i0 (by assumption)) | exact isI.gc (isW.i0 (by assumption)) | exact isI.gx (isW.i1 (by assumption)) | exact isI.gc (isW.i1 (by assumption)) | exact isI.gx (isW.i2 (by assumption)) | exact isI.gc (isW.i2 (by assumption)) | exact isI.gx (isW.i3 (by assumption)) | exact isI.gc (isW.i3 (by assumption)) | exact isI.gx (isW.i4 (by assumption)) | exact isI.gc (isW.i4 (by assumption)) | exact isI.gx (isW.i5 (by assumption)) | exact isI.gc (isW.i5 (by assumption)) | exact isR.gx (by assumption) | exact isRd.gx (by assumption) | exact isSp.gx (by assumption) | exact isI.gx (isR.i (by assumption)) | exact isI.gx (isRd.i (by assumption)) | exact isI.gc (isRd.i (by assumption)) | exact isI.gx (isSp.i (by assumption)) | exact isW.gx (isR.w (by assumption)) | exact isW.gF (isR.w (by assumption)) | fail "no such object") rfl rfl (Nat.le_of_ble_eq_true rfl) (cw_scopeAt _ hW_12 hc2 (i := (S : Int)) ⟨by omega, by omega⟩) (fun v_17 h_17 q_17 => ?_)
  obtain ⟨q1_17, rfl⟩ := q_17
  · obtain rfl := scAt_P (by omega) q1_17
    refine r_astore (pc := 20) dX9_addScope_20 (Nat.le_of_ble_eq_true rfl) (by first | rfl | exact isRefV_rf _) ?_
    dsimp only [lsSt, List.set, mLs, mEnt]
    refine r_aload (pc := 22) dX9_addScope_22 rfl (by first | rfl | exact isRefV_rf _) ?_
    refine r_ifnonnull (pc := 24) (tgt := 34) dX9_addScope_24 (by decide) (by first | rfl | exact isRefV_rf _) (fun a_24 c_24 => ?_) (fun c_24 => by cases c_24)
    rw [Int.toNat_natCast]
    refine r_aload (pc := 34) dX9_addScope_34 rfl (by first | rfl | exact isRefV_rf _) ?_
    refine rj_iconst (pc := 36) dX9_addScope_36 ?_
    refine rc_putS0 (pc := 37) dX9_addScope_37 fX9_127 (by assumption) (by omega) (fun h_37 hW_37 hS_37 => ?_)
    refine r_aload (pc := 40) dX9_addScope_40 rfl (by first | rfl | exact isRefV_rf _) ?_
    refine r_iload_n (pc := 42) dX9_addScope_42 rfl ?_
    refine rc_putS1 (pc := 43) dX9_addScope_43 fX9_65 (by assumption) (by omega) (fun h_43 hW_43 hS_43 => ?_)
    refine r_aload (pc := 46) dX9_addScope_46 rfl (by first | rfl | exact isRefV_rf _) ?_
    refine r_iload_n (pc := 48) dX9_addScope_48 rfl ?_
    refine rc_putS2 (pc := 49) dX9_addScope_49 fX9_68 (by assumption) (by omega) (fun h_49 hW_49 hS_49 => ?_)
    refine r_aload_n (pc := 52) dX9_addScope_52 rfl (by first | rfl | exact isRefV_rf _) ?_
    refine r_getf (pc := 53) dX9_addScope_53 fX9_41 (by first | assumption | exact isI.gx (by assumption) | exact isI.gc (by assumption) | exact isW.gx (by assumption) | exact isW.gF (by assumption) | exact isW.gT (by assumption) (by omega) | exact isW.gS (by assumption) (by omega) | exact isW.gK (by assumption) (by omega) | exact isW.g1 (by assumption) | exact isW.g2 (by assumption) | exact isW.g3 (by assumption) | exact isI.gx (isW.i0 (by assumption)) | exact isI.gc (isW.i0 (by assumption)) | exact isI.gx (isW.i1 (by assumption)) | exact isI.gc (isW.i1 (by assumption)) | exact isI.gx (isW.i2 (by assumption)) | exact isI.gc (isW.i2 (by assumption)) | exact isI.gx (isW.i3 (by assumption)) | exact isI.gc (isW.i3 (by assumption)) | exact isI.gx (isW.i4 (by assumption)) | exact isI.gc (isW.i4 (by assumption)) | exact isI.gx (isW.i5 (by assumption)) | exact isI.gc (isW.i5 (by assumption)) | exact isR.gx (by assumption) | exact isRd.gx (by assumption) | exact isSp.gx (by assumption) | exact isI.gx (isR.i (by assumption)) | exact isI.gx (isRd.i (by assumption)) | exact isI.gc (isRd.i (by assumption)) | exact isI.gx (isSp.i (by assumption)) | exact isW.gx (isR.w (by assumption)) | exact isW.gF (isR.w (by assumption)) | fail "no such object") (by rfl) ?_
    refine rj_bipush (pc := 56) dX9_addScope_56 (by decide +kernel) ?_
    refine r_iload_n (pc := 58) dX9_addScope_58 rfl ?_
    refine rj_iadd (pc := 59) dX9_addScope_59 ?_
    have hW_60 : isW h_49 w (asC c S i k) C nm g := hW_49
    have e10 : asC c S i k (8 + 2) = (Z : Int) := by unfold asC; rw [updI_n (by omega), updI_n (by omega), updI_n (by omega), updI_n (by omega)]; exact hZ
    have i2 := hW_60.i2
    rw [show asC c S i k 10 = (Z : Int) from e10] at i2
    refine r_callV1 (pc := 60) dX9_addScope_60 qX1_append kX9_123 vX1_append (by first | assumption | exact isI.gx (by assumption) | exact isI.gc (by assumption) | exact isW.gx (by assumption) | exact isW.gF (by assumption) | exact isW.gT (by assumption) (by omega) | exact isW.gS (by assumption) (by omega) | exact isW.gK (by assumption) (by omega) | exact isW.g1 (by assumption) | exact isW.g2 (by assumption) | exact isW.g3 (by assumption) | exact isI.gx (isW.i0 (by assumption)) | exact isI.gc (isW.i0 (by assumption)) | exact isI.gx (isW.i1 (by assumption)) | exact isI.gc (isW.i1 (by assumption)) | exact isI.gx (isW.i2 (by assumption)) | exact isI.gc (isW.i2 (by assumption)) | exact isI.gx (isW.i3 (by assumption)) | exact isI.gc (isW.i3 (by assumption)) | exact isI.gx (isW.i4 (by assumption)) | exact isI.gc (isW.i4 (by assumption)) | exact isI.gx (isW.i5 (by assumption)) | exact isI.gc (isW.i5 (by assumption)) | exact isR.gx (by assumption) | exact isRd.gx (by assumption) | exact isSp.gx (by assumption) | exact isI.gx (isR.i (by assumption)) | exact isI.gx (isRd.i (by assumption)) | exact isI.gc (isRd.i (by assumption)) | exact isI.gx (isSp.i (by assumption)) | exact isW.gx (isR.w (by assumption)) | exact isW.gF (isR.w (by assumption)) | fail "no such object") rfl rfl (Nat.le_of_ble_eq_true rfl) (ci_append _ i2 (by decide) ⟨by omega, by omega⟩ (100 + (S : Int))) (fun v_60 h_60 q_60 => ?_)
    obtain ⟨rfl, I_60, S_60⟩ := q_60
    rw [if_pos (by omega), if_pos (by omega)] at I_60
    have hW_61 := hW_60.ofI (j := 2) (by decide) S_60 I_60
    refine r_pop (pc := 63) dX9_addScope_63 (by first | rfl | (cases ‹Option Nat› <;> rfl)) ?_
    refine r_iload_n (pc := 64) dX9_addScope_64 rfl ?_
    refine r_ireturn (pc := 65) .int dX9_addScope_65 rfl (by first | rfl | assumption) ?_
    exact ⟨rfl, hW_61, ((((hS_12.trans hS_37).trans hS_43).trans hS_49).trans (S_60.mono (fun b hb => iBlk_wBlk (j := 2) hb)))⟩
def tsC (c : Nat → Int) (q : Nat) (s p : Int) : Nat → Int := updI (updI (updI (updI (updI (updI (updI (updI (updI c (488 + 9 * q) 0) (489 + 9 * q) 0) (490 + 9 * q) p) (491 + 9 * q) 0) (492 + 9 * q) 0) (493 + 9 * q) s) (494 + 9 * q) s) (495 + 9 * q) 0) (496 + 9 * q) 0
def tsG (g : Nat → Option Nat) (q : Nat) (r : Option Nat) : Nat → Option Nat := updO (updO g (180 + 2 * q) r) (181 + 2 * q) r
set_option maxHeartbeats 4000000 in
set_option maxRecDepth 100000 in
theorem cq_start {G : mG} {l : Launch} (d : Nat) {h : mH} {w : Nat} {c : Nat → Int} {C : Nat → Nat → Int} {nm : Nat → Int64} {g : Nat → Option Nat} (hW : isW h w c C nm g) {q : Nat} (hq : q < 10) {r : Option Nat} {i p : Int} : RUNM G l (d) mX7_start [.ref (wK w q), va_rf r, .int (J i), .int (J p)] h (fun v h' => v = none ∧ isW h' w (tsC c q i p) C nm (tsG g q r) ∧ Same (wBlk w) h h') := by
  cases r with
  | none =>
    refine RUNM.of (by decide +kernel) (Nat.le_of_ble_eq_true rfl) ?_
    refine r_aload_n (pc := 0) dX7_start_0 rfl (by first | rfl | exact isRefV_rf _) ?_
    refine r_aload_n (pc := 1) dX7_start_1 rfl (by first | rfl | exact isRefV_rf _) ?_
    refine rc_putK0 (pc := 2) dX7_start_2 fX7_9 (by assumption) (by omega) (fun h_2 hW_2 hS_2 => ?_)
    refine r_aload_n (pc := 5) dX7_start_5 rfl (by first | rfl | exact isRefV_rf _) ?_
    refine r_aload_n (pc := 6) dX7_start_6 rfl (by first | rfl | exact isRefV_rf _) ?_
    refine rc_putK1 (pc := 7) dX7_start_7 fX7_15 (by assumption) (by omega) (fun h_7 hW_7 hS_7 => ?_)
    refine r_aload_n (pc := 10) dX7_start_10 rfl (by first | rfl | exact isRefV_rf _) ?_
    refine rj_iconst (pc := 11) dX7_start_11 ?_
    refine rc_putK2 (pc := 12) dX7_start_12 fX7_18 (by assumption) (by omega) (fun h_12 hW_12 hS_12 => ?_)
    refine r_aload_n (pc := 15) dX7_start_15 rfl (by first | rfl | exact isRefV_rf _) ?_
    refine rj_iconst (pc := 16) dX7_start_16 ?_
    refine rc_putK3 (pc := 17) dX7_start_17 fX7_22 (by assumption) (by omega) (fun h_17 hW_17 hS_17 => ?_)
    refine r_aload_n (pc := 20) dX7_start_20 rfl (by first | rfl | exact isRefV_rf _) ?_
    refine r_iload_n (pc := 21) dX7_start_21 rfl ?_
    refine rc_putK4 (pc := 22) dX7_start_22 fX7_25 (by assumption) (by omega) (fun h_22 hW_22 hS_22 => ?_)
    refine r_aload_n (pc := 25) dX7_start_25 rfl (by first | rfl | exact isRefV_rf _) ?_
    refine rj_iconst (pc := 26) dX7_start_26 ?_
    refine rc_putK5 (pc := 27) dX7_start_27 fX7_28 (by assumption) (by omega) (fun h_27 hW_27 hS_27 => ?_)
    refine r_aload_n (pc := 30) dX7_start_30 rfl (by first | rfl | exact isRefV_rf _) ?_
    refine rj_iconst (pc := 31) dX7_start_31 ?_
    refine rc_putK6 (pc := 32) dX7_start_32 fX7_31 (by assumption) (by omega) (fun h_32 hW_32 hS_32 => ?_)
    refine r_aload_n (pc := 35) dX7_start_35 rfl (by first | rfl | exact isRefV_rf _) ?_
    refine r_iload_n (pc := 36) dX7_start_36 rfl ?_
    refine rc_putK7 (pc := 37) dX7_start_37 fX7_34 (by assumption) (by omega) (fun h_37 hW_37 hS_37 => ?_)
    refine r_aload_n (pc := 40) dX7_start_40 rfl (by first | rfl | exact isRefV_rf _) ?_
    refine r_iload_n (pc := 41) dX7_start_41 rfl ?_
    refine rc_putK8 (pc := 42) dX7_start_42 fX7_37 (by assumption) (by omega) (fun h_42 hW_42 hS_42 => ?_)
    refine r_aload_n (pc := 45) dX7_start_45 rfl (by first | rfl | exact isRefV_rf _) ?_
    refine rj_iconst (pc := 46) dX7_start_46 ?_
    refine rc_putK9 (pc := 47) dX7_start_47 fX7_40 (by assumption) (by omega) (fun h_47 hW_47 hS_47 => ?_)
    refine r_aload_n (pc := 50) dX7_start_50 rfl (by first | rfl | exact isRefV_rf _) ?_
    refine rj_iconst (pc := 51) dX7_start_51 ?_
    refine rc_putK10 (pc := 52) dX7_start_52 fX7_43 (by assumption) (by omega) (by first | exact nar_J0 | exact nar_J1 | exact nar_b01 | assumption) (by first | exact fit_J0 | exact fit_J1 | assumption) (fun h_52 hW_52 hS_52 => ?_)
    refine r_return (pc := 55) dX7_start_55 rfl ?_
    exact ⟨rfl, hW_52, (((((((((hS_2.trans hS_7).trans hS_12).trans hS_17).trans hS_22).trans hS_27).trans hS_32).trans hS_37).trans hS_42).trans hS_47).trans hS_52⟩
  | some r =>
    refine RUNM.of (by decide +kernel) (Nat.le_of_ble_eq_true rfl) ?_
    refine r_aload_n (pc := 0) dX7_start_0 rfl (by first | rfl | exact isRefV_rf _) ?_
    refine r_aload_n (pc := 1) dX7_start_1 rfl (by first | rfl | exact isRefV_rf _) ?_
    refine rc_putK0 (pc := 2) dX7_start_2 fX7_9 (by assumption) (by omega) (fun h_2 hW_2 hS_2 => ?_)
    refine r_aload_n (pc := 5) dX7_start_5 rfl (by first | rfl | exact isRefV_rf _) ?_
    refine r_aload_n (pc := 6) dX7_start_6 rfl (by first | rfl | exact isRefV_rf _) ?_
    refine rc_putK1 (pc := 7) dX7_start_7 fX7_15 (by assumption) (by omega) (fun h_7 hW_7 hS_7 => ?_)
    refine r_aload_n (pc := 10) dX7_start_10 rfl (by first | rfl | exact isRefV_rf _) ?_
    refine rj_iconst (pc := 11) dX7_start_11 ?_
    refine rc_putK2 (pc := 12) dX7_start_12 fX7_18 (by assumption) (by omega) (fun h_12 hW_12 hS_12 => ?_)
    refine r_aload_n (pc := 15) dX7_start_15 rfl (by first | rfl | exact isRefV_rf _) ?_
    refine rj_iconst (pc := 16) dX7_start_16 ?_
    refine rc_putK3 (pc := 17) dX7_start_17 fX7_22 (by assumption) (by omega) (fun h_17 hW_17 hS_17 => ?_)
    refine r_aload_n (pc := 20) dX7_start_20 rfl (by first | rfl | exact isRefV_rf _) ?_
    refine r_iload_n (pc := 21) dX7_start_21 rfl ?_
    refine rc_putK4 (pc := 22) dX7_start_22 fX7_25 (by assumption) (by omega) (fun h_22 hW_22 hS_22 => ?_)
    refine r_aload_n (pc := 25) dX7_start_25 rfl (by first | rfl | exact isRefV_rf _) ?_
    refine rj_iconst (pc := 26) dX7_start_26 ?_
    refine rc_putK5 (pc := 27) dX7_start_27 fX7_28 (by assumption) (by omega) (fun h_27 hW_27 hS_27 => ?_)
    refine r_aload_n (pc := 30) dX7_start_30 rfl (by first | rfl | exact isRefV_rf _) ?_
    refine rj_iconst (pc := 31) dX7_start_31 ?_
    refine rc_putK6 (pc := 32) dX7_start_32 fX7_31 (by assumption) (by omega) (fun h_32 hW_32 hS_32 => ?_)
    refine r_aload_n (pc := 35) dX7_start_35 rfl (by first | rfl | exact isRefV_rf _) ?_
    refine r_iload_n (pc := 36) dX7_start_36 rfl ?_
    refine rc_putK7 (pc := 37) dX7_start_37 fX7_34 (by assumption) (by omega) (fun h_37 hW_37 hS_37 => ?_)
    refine r_aload_n (pc := 40) dX7_start_40 rfl (by first | rfl | exact isRefV_rf _) ?_
    refine r_iload_n (pc := 41) dX7_start_41 rfl ?_
    refine rc_putK8 (pc := 42) dX7_start_42 fX7_37 (by assumption) (by omega) (fun h_42 hW_42 hS_42 => ?_)
    refine r_aload_n (pc := 45) dX7_start_45 rfl (by first | rfl | exact isRefV_rf _) ?_
    refine rj_iconst (pc := 46) dX7_start_46 ?_
    refine rc_putK9 (pc := 47) dX7_start_47 fX7_40 (by assumption) (by omega) (fun h_47 hW_47 hS_47 => ?_)
    refine r_aload_n (pc := 50) dX7_start_50 rfl (by first | rfl | exact isRefV_rf _) ?_
    refine rj_iconst (pc := 51) dX7_start_51 ?_
    refine rc_putK10 (pc := 52) dX7_start_52 fX7_43 (by assumption) (by omega) (by first | exact nar_J0 | exact nar_J1 | exact nar_b01 | assumption) (by first | exact fit_J0 | exact fit_J1 | assumption) (fun h_52 hW_52 hS_52 => ?_)
    refine r_return (pc := 55) dX7_start_55 rfl ?_
    exact ⟨rfl, hW_52, (((((((((hS_2.trans hS_7).trans hS_12).trans hS_17).trans hS_22).trans hS_27).trans hS_32).trans hS_37).trans hS_42).trans hS_47).trans hS_52⟩
def gaC (c : Nat → Int) (F : Nat) : Nat → Int := updI (updI (updI c 11 ((F : Int) + 1)) 12 ((F : Int) + 1)) 13 ((F : Int) + 1)
def gaD (C : Nat → Nat → Int) (F : Nat) (a t b : Int) : Nat → Nat → Int := updC (updC (updC C 3 (updI (C 3) F a)) 4 (updI (C 4) F t)) 5 (updI (C 5) F b)
set_option maxHeartbeats 4000000 in
set_option maxRecDepth 100000 in
theorem cq_gather {G : mG} {l : Launch} (d : Nat) {h : mH} {w : Nat} {c : Nat → Int} {C : Nat → Nat → Int} {nm : Nat → Int64} {g : Nat → Option Nat} (hW : isW h w c C nm g) (hc : ∀ q, InR (c q)) {F : Nat} (h11 : c 11 = (F : Int)) (h12 : c 12 = (F : Int)) (h13 : c 13 = (F : Int)) (hcapF : F < 90) {a t b : Int}  : RUNM G l (d + 1) mX0_gather [.ref (wA w 10), .int (J a), .int (J t), .int (J b)] h (fun v h' => v = none ∧ isW h' w (gaC c F) (gaD C F a t b) nm g ∧ Same (wBlk w) h h') := by
  refine RUNM.of (by decide +kernel) (Nat.le_of_ble_eq_true rfl) ?_
  refine r_aload_n (pc := 0) dX0_gather_0 rfl (by first | rfl | exact isRefV_rf _) ?_
  refine r_getf (pc := 1) dX0_gather_1 fX0_14 (by first | assumption | exact isI.gx (by assumption) | exact isI.gc (by assumption) | exact isW.gx (by assumption) | exact isW.gF (by assumption) | exact isW.gT (by assumption) (by omega) | exact isW.gS (by assumption) (by omega) | exact isW.gK (by assumption) (by omega) | exact isW.g1 (by assumption) | exact isW.g2 (by assumption) | exact isW.g3 (by assumption) | exact isI.gx (isW.i0 (by assumption)) | exact isI.gc (isW.i0 (by assumption)) | exact isI.gx (isW.i1 (by assumption)) | exact isI.gc (isW.i1 (by assumption)) | exact isI.gx (isW.i2 (by assumption)) | exact isI.gc (isW.i2 (by assumption)) | exact isI.gx (isW.i3 (by assumption)) | exact isI.gc (isW.i3 (by assumption)) | exact isI.gx (isW.i4 (by assumption)) | exact isI.gc (isW.i4 (by assumption)) | exact isI.gx (isW.i5 (by assumption)) | exact isI.gc (isW.i5 (by assumption)) | exact isR.gx (by assumption) | exact isRd.gx (by assumption) | exact isSp.gx (by assumption) | exact isI.gx (isR.i (by assumption)) | exact isI.gx (isRd.i (by assumption)) | exact isI.gc (isRd.i (by assumption)) | exact isI.gx (isSp.i (by assumption)) | exact isW.gx (isR.w (by assumption)) | exact isW.gF (isR.w (by assumption)) | fail "no such object") (by rfl) ?_
  refine r_iload_n (pc := 4) dX0_gather_4 rfl ?_
  have i3 := hW.i3
  have z3 : c 11 = (F : Int) := by (try rw [updI_n (by omega)]); (try rw [updI_n (by omega)]); assumption
  rw [z3] at i3
  refine r_callV1 (pc := 5) dX0_gather_5 qX1_append kX0_26 vX1_append (by first | assumption | exact isI.gx (by assumption) | exact isI.gc (by assumption) | exact isW.gx (by assumption) | exact isW.gF (by assumption) | exact isW.gT (by assumption) (by omega) | exact isW.gS (by assumption) (by omega) | exact isW.gK (by assumption) (by omega) | exact isW.g1 (by assumption) | exact isW.g2 (by assumption) | exact isW.g3 (by assumption) | exact isI.gx (isW.i0 (by assumption)) | exact isI.gc (isW.i0 (by assumption)) | exact isI.gx (isW.i1 (by assumption)) | exact isI.gc (isW.i1 (by assumption)) | exact isI.gx (isW.i2 (by assumption)) | exact isI.gc (isW.i2 (by assumption)) | exact isI.gx (isW.i3 (by assumption)) | exact isI.gc (isW.i3 (by assumption)) | exact isI.gx (isW.i4 (by assumption)) | exact isI.gc (isW.i4 (by assumption)) | exact isI.gx (isW.i5 (by assumption)) | exact isI.gc (isW.i5 (by assumption)) | exact isR.gx (by assumption) | exact isRd.gx (by assumption) | exact isSp.gx (by assumption) | exact isI.gx (isR.i (by assumption)) | exact isI.gx (isRd.i (by assumption)) | exact isI.gc (isRd.i (by assumption)) | exact isI.gx (isSp.i (by assumption)) | exact isW.gx (isR.w (by assumption)) | exact isW.gF (isR.w (by assumption)) | fail "no such object") rfl rfl (Nat.le_of_ble_eq_true rfl) (ci_append _ i3 (by decide) ⟨by omega, by omega⟩ a) (fun v_5 h_5 q_5 => ?_)
  obtain ⟨rfl, I_5, S_5⟩ := q_5
  rw [if_pos (by omega), if_pos (by omega)] at I_5
  have W_5 := hW.ofI (j := 3) (by decide) S_5 I_5
  have T_5 := S_5.mono (P' := wBlk w) (fun b hb => iBlk_wBlk (j := 3) hb)
  refine r_pop (pc := 8) dX0_gather_8 (by first | rfl | (cases ‹Option Nat› <;> rfl)) ?_
  refine r_aload_n (pc := 9) dX0_gather_9 rfl (by first | rfl | exact isRefV_rf _) ?_
  refine r_getf (pc := 10) dX0_gather_10 fX0_20 (by first | assumption | exact isI.gx (by assumption) | exact isI.gc (by assumption) | exact isW.gx (by assumption) | exact isW.gF (by assumption) | exact isW.gT (by assumption) (by omega) | exact isW.gS (by assumption) (by omega) | exact isW.gK (by assumption) (by omega) | exact isW.g1 (by assumption) | exact isW.g2 (by assumption) | exact isW.g3 (by assumption) | exact isI.gx (isW.i0 (by assumption)) | exact isI.gc (isW.i0 (by assumption)) | exact isI.gx (isW.i1 (by assumption)) | exact isI.gc (isW.i1 (by assumption)) | exact isI.gx (isW.i2 (by assumption)) | exact isI.gc (isW.i2 (by assumption)) | exact isI.gx (isW.i3 (by assumption)) | exact isI.gc (isW.i3 (by assumption)) | exact isI.gx (isW.i4 (by assumption)) | exact isI.gc (isW.i4 (by assumption)) | exact isI.gx (isW.i5 (by assumption)) | exact isI.gc (isW.i5 (by assumption)) | exact isR.gx (by assumption) | exact isRd.gx (by assumption) | exact isSp.gx (by assumption) | exact isI.gx (isR.i (by assumption)) | exact isI.gx (isRd.i (by assumption)) | exact isI.gc (isRd.i (by assumption)) | exact isI.gx (isSp.i (by assumption)) | exact isW.gx (isR.w (by assumption)) | exact isW.gF (isR.w (by assumption)) | fail "no such object") (by rfl) ?_
  refine r_iload_n (pc := 13) dX0_gather_13 rfl ?_
  have i4 := W_5.i4
  have z4 : updI c (8 + 3) ((F : Int) + 1) 12 = (F : Int) := by (try rw [updI_n (by omega)]); (try rw [updI_n (by omega)]); assumption
  rw [z4] at i4
  refine r_callV1 (pc := 14) dX0_gather_14 qX1_append kX0_26 vX1_append (by first | assumption | exact isI.gx (by assumption) | exact isI.gc (by assumption) | exact isW.gx (by assumption) | exact isW.gF (by assumption) | exact isW.gT (by assumption) (by omega) | exact isW.gS (by assumption) (by omega) | exact isW.gK (by assumption) (by omega) | exact isW.g1 (by assumption) | exact isW.g2 (by assumption) | exact isW.g3 (by assumption) | exact isI.gx (isW.i0 (by assumption)) | exact isI.gc (isW.i0 (by assumption)) | exact isI.gx (isW.i1 (by assumption)) | exact isI.gc (isW.i1 (by assumption)) | exact isI.gx (isW.i2 (by assumption)) | exact isI.gc (isW.i2 (by assumption)) | exact isI.gx (isW.i3 (by assumption)) | exact isI.gc (isW.i3 (by assumption)) | exact isI.gx (isW.i4 (by assumption)) | exact isI.gc (isW.i4 (by assumption)) | exact isI.gx (isW.i5 (by assumption)) | exact isI.gc (isW.i5 (by assumption)) | exact isR.gx (by assumption) | exact isRd.gx (by assumption) | exact isSp.gx (by assumption) | exact isI.gx (isR.i (by assumption)) | exact isI.gx (isRd.i (by assumption)) | exact isI.gc (isRd.i (by assumption)) | exact isI.gx (isSp.i (by assumption)) | exact isW.gx (isR.w (by assumption)) | exact isW.gF (isR.w (by assumption)) | fail "no such object") rfl rfl (Nat.le_of_ble_eq_true rfl) (ci_append _ i4 (by decide) ⟨by omega, by omega⟩ t) (fun v_14 h_14 q_14 => ?_)
  obtain ⟨rfl, I_14, S_14⟩ := q_14
  rw [if_pos (by omega), if_pos (by omega)] at I_14
  have W_14 := W_5.ofI (j := 4) (by decide) S_14 I_14
  have T_14 := S_14.mono (P' := wBlk w) (fun b hb => iBlk_wBlk (j := 4) hb)
  refine r_pop (pc := 17) dX0_gather_17 (by first | rfl | (cases ‹Option Nat› <;> rfl)) ?_
  refine r_aload_n (pc := 18) dX0_gather_18 rfl (by first | rfl | exact isRefV_rf _) ?_
  refine r_getf (pc := 19) dX0_gather_19 fX0_23 (by first | assumption | exact isI.gx (by assumption) | exact isI.gc (by assumption) | exact isW.gx (by assumption) | exact isW.gF (by assumption) | exact isW.gT (by assumption) (by omega) | exact isW.gS (by assumption) (by omega) | exact isW.gK (by assumption) (by omega) | exact isW.g1 (by assumption) | exact isW.g2 (by assumption) | exact isW.g3 (by assumption) | exact isI.gx (isW.i0 (by assumption)) | exact isI.gc (isW.i0 (by assumption)) | exact isI.gx (isW.i1 (by assumption)) | exact isI.gc (isW.i1 (by assumption)) | exact isI.gx (isW.i2 (by assumption)) | exact isI.gc (isW.i2 (by assumption)) | exact isI.gx (isW.i3 (by assumption)) | exact isI.gc (isW.i3 (by assumption)) | exact isI.gx (isW.i4 (by assumption)) | exact isI.gc (isW.i4 (by assumption)) | exact isI.gx (isW.i5 (by assumption)) | exact isI.gc (isW.i5 (by assumption)) | exact isR.gx (by assumption) | exact isRd.gx (by assumption) | exact isSp.gx (by assumption) | exact isI.gx (isR.i (by assumption)) | exact isI.gx (isRd.i (by assumption)) | exact isI.gc (isRd.i (by assumption)) | exact isI.gx (isSp.i (by assumption)) | exact isW.gx (isR.w (by assumption)) | exact isW.gF (isR.w (by assumption)) | fail "no such object") (by rfl) ?_
  refine r_iload_n (pc := 22) dX0_gather_22 rfl ?_
  have i5 := W_14.i5
  have z5 : updI (updI c (8 + 3) ((F : Int) + 1)) (8 + 4) ((F : Int) + 1) 13 = (F : Int) := by (try rw [updI_n (by omega)]); (try rw [updI_n (by omega)]); assumption
  rw [z5] at i5
  refine r_callV1 (pc := 23) dX0_gather_23 qX1_append kX0_26 vX1_append (by first | assumption | exact isI.gx (by assumption) | exact isI.gc (by assumption) | exact isW.gx (by assumption) | exact isW.gF (by assumption) | exact isW.gT (by assumption) (by omega) | exact isW.gS (by assumption) (by omega) | exact isW.gK (by assumption) (by omega) | exact isW.g1 (by assumption) | exact isW.g2 (by assumption) | exact isW.g3 (by assumption) | exact isI.gx (isW.i0 (by assumption)) | exact isI.gc (isW.i0 (by assumption)) | exact isI.gx (isW.i1 (by assumption)) | exact isI.gc (isW.i1 (by assumption)) | exact isI.gx (isW.i2 (by assumption)) | exact isI.gc (isW.i2 (by assumption)) | exact isI.gx (isW.i3 (by assumption)) | exact isI.gc (isW.i3 (by assumption)) | exact isI.gx (isW.i4 (by assumption)) | exact isI.gc (isW.i4 (by assumption)) | exact isI.gx (isW.i5 (by assumption)) | exact isI.gc (isW.i5 (by assumption)) | exact isR.gx (by assumption) | exact isRd.gx (by assumption) | exact isSp.gx (by assumption) | exact isI.gx (isR.i (by assumption)) | exact isI.gx (isRd.i (by assumption)) | exact isI.gc (isRd.i (by assumption)) | exact isI.gx (isSp.i (by assumption)) | exact isW.gx (isR.w (by assumption)) | exact isW.gF (isR.w (by assumption)) | fail "no such object") rfl rfl (Nat.le_of_ble_eq_true rfl) (ci_append _ i5 (by decide) ⟨by omega, by omega⟩ b) (fun v_23 h_23 q_23 => ?_)
  obtain ⟨rfl, I_23, S_23⟩ := q_23
  rw [if_pos (by omega), if_pos (by omega)] at I_23
  have W_23 := W_14.ofI (j := 5) (by decide) S_23 I_23
  have T_23 := S_23.mono (P' := wBlk w) (fun b hb => iBlk_wBlk (j := 5) hb)
  refine r_pop (pc := 26) dX0_gather_26 (by first | rfl | (cases ‹Option Nat› <;> rfl)) ?_
  refine r_return (pc := 27) dX0_gather_27 rfl ?_
  exact ⟨rfl, W_23, (T_5.trans T_14).trans T_23⟩

section mg_92
set_option maxHeartbeats 4000000 in
set_option maxRecDepth 100000 in
theorem cq_start {G : mG} {l : Launch} (d : Nat) {h : mH} {w : Nat} {c : Nat → Int} {C : Nat → Nat → Int} {nm : Nat → Int64} {g : Nat → Option Nat} (hW : isW h w c C nm g) {q : Nat} (hq : q < 10) {r : Option Nat} {i p : Int} : RUNM G l (d) mX7_start [.ref (wK w q), va_rf r, .int (J i), .int (J p)] h (fun v h' => v = none ∧ isW h' w (tsC c q i p) C nm (tsG g q r) ∧ Same (wBlk w) h h') := by
  cases r with
  | none =>
    refine RUNM.of (by decide +kernel) (Nat.le_of_ble_eq_true rfl) ?_
    refine r_aload_n (pc := 0) dX7_start_0 rfl (by first | rfl | exact isRefV_rf _) ?_
    refine r_aload_n (pc := 1) dX7_start_1 rfl (by first | rfl | exact isRefV_rf _) ?_
    refine rc_putK0 (pc := 2) dX7_start_2 fX7_9 (by assumption) (by omega) (fun h_2 hW_2 hS_2 => ?_)
    refine r_aload_n (pc := 5) dX7_start_5 rfl (by first | rfl | exact isRefV_rf _) ?_
    refine r_aload_n (pc := 6) dX7_start_6 rfl (by first | rfl | exact isRefV_rf _) ?_
    refine rc_putK1 (pc := 7) dX7_start_7 fX7_15 (by assumption) (by omega) (fun h_7 hW_7 hS_7 => ?_)
    refine r_aload_n (pc := 10) dX7_start_10 rfl (by first | rfl | exact isRefV_rf _) ?_
    refine rj_iconst (pc := 11) dX7_start_11 ?_
    refine rc_putK2 (pc := 12) dX7_start_12 fX7_18 (by assumption) (by omega) (fun h_12 hW_12 hS_12 => ?_)
    refine r_aload_n (pc := 15) dX7_start_15 rfl (by first | rfl | exact isRefV_rf _) ?_
    refine rj_iconst (pc := 16) dX7_start_16 ?_
    refine rc_putK3 (pc := 17) dX7_start_17 fX7_22 (by assumption) (by omega) (fun h_17 hW_17 hS_17 => ?_)
    refine r_aload_n (pc := 20) dX7_start_20 rfl (by first | rfl | exact isRefV_rf _) ?_
    refine r_iload_n (pc := 21) dX7_start_21 rfl ?_
    refine rc_putK4 (pc := 22) dX7_start_22 fX7_25 (by assumption) (by omega) (fun h_22 hW_22 hS_22 => ?_)
    refine r_aload_n (pc := 25) dX7_start_25 rfl (by first | rfl | exact isRefV_rf _) ?_
    refine rj_iconst (pc := 26) dX7_start_26 ?_
    refine rc_putK5 (pc := 27) dX7_start_27 fX7_28 (by assumption) (by omega) (fun h_27 hW_27 hS_27 => ?_)
    refine r_aload_n (pc := 30) dX7_start_30 rfl (by first | rfl | exact isRefV_rf _) ?_
    refine rj_iconst (pc := 31) dX7_start_31 ?_
    refine rc_putK6 (pc := 32) dX7_start_32 fX7_31 (by assumption) (by omega) (fun h_32 hW_32 hS_32 => ?_)
    refine r_aload_n (pc := 35) dX7_start_35 rfl (by first | rfl | exact isRefV_rf _) ?_
    refine r_iload_n (pc := 36) dX7_start_36 rfl ?_
    refine rc_putK7 (pc := 37) dX7_start_37 fX7_34 (by assumption) (by omega) (fun h_37 hW_37 hS_37 => ?_)
    refine r_aload_n (pc := 40) dX7_start_40 rfl (by first | rfl | exact isRefV_rf _) ?_
    refine r_iload_n (pc := 41) dX7_start_41 rfl ?_
    refine rc_putK8 (pc := 42) dX7_start_42 fX7_37 (by assumption) (by omega) (fun h_42 hW_42 hS_42 => ?_)
    refine r_aload_n (pc := 45) dX7_start_45 rfl (by first | rfl | exact isRefV_rf _) ?_
    refine rj_iconst (pc := 46) dX7_start_46 ?_
    refine rc_putK9 (pc := 47) dX7_start_47 fX7_40 (by assumption) (by omega) (fun h_47 hW_47 hS_47 => ?_)
    refine r_aload_n (pc := 50) dX7_start_50 rfl (by first | rfl | exact isRefV_rf _) ?_
    refine rj_iconst (pc := 51) dX7_start_51 ?_
    refine rc_putK10 (pc := 52) dX7_start_52 fX7_43 (by assumption) (by omega) (by first | exact nar_J0 | exact nar_J1 | exact nar_b01 | assumption) (by first | exact fit_J0 | exact fit_J1 | assumption) (fun h_52 hW_52 hS_52 => ?_)
    refine r_return (pc := 55) dX7_start_55 rfl ?_
    exact ⟨rfl, hW_52, (((((((((hS_2.trans hS_7).trans hS_12).trans hS_17).trans hS_22).trans hS_27).trans hS_32).trans hS_37).trans hS_42).trans hS_47).trans hS_52⟩
  | some r =>
    refine RUNM.of (by decide +kernel) (Nat.le_of_ble_eq_true rfl) ?_
    refine r_aload_n (pc := 0) dX7_start_0 rfl (by first | rfl | exact isRefV_rf _) ?_
    refine r_aload_n (pc := 1) dX7_start_1 rfl (by first | rfl | exact isRefV_rf _) ?_
    refine rc_putK0 (pc := 2) dX7_start_2 fX7_9 (by assumption) (by omega) (fun h_2 hW_2 hS_2 => ?_)
    refine r_aload_n (pc := 5) dX7_start_5 rfl (by first | rfl | exact isRefV_rf _) ?_
    refine r_aload_n (pc := 6) dX7_start_6 rfl (by first | rfl | exact isRefV_rf _) ?_
    refine rc_putK1 (pc := 7) dX7_start_7 fX7_15 (by assumption) (by omega) (fun h_7 hW_7 hS_7 => ?_)
    refine r_aload_n (pc := 10) dX7_start_10 rfl (by first | rfl | exact isRefV_rf _) ?_
    refine rj_iconst (pc := 11) dX7_start_11 ?_
    refine rc_putK2 (pc := 12) dX7_start_12 fX7_18 (by assumption) (by omega) (fun h_12 hW_12 hS_12 => ?_)
    refine r_aload_n (pc := 15) dX7_start_15 rfl (by first | rfl | exact isRefV_rf _) ?_
    refine rj_iconst (pc := 16) dX7_start_16 ?_
    refine rc_putK3 (pc := 17) dX7_start_17 fX7_22 (by assumption) (by omega) (fun h_17 hW_17 hS_17 => ?_)
    refine r_aload_n (pc := 20) dX7_start_20 rfl (by first | rfl | exact isRefV_rf _) ?_
    refine r_iload_n (pc := 21) dX7_start_21 rfl ?_
    refine rc_putK4 (pc := 22) dX7_start_22 fX7_25 (by assumption) (by omega) (fun h_22 hW_22 hS_22 => ?_)
    refine r_aload_n (pc := 25) dX7_start_25 rfl (by first | rfl | exact isRefV_rf _) ?_
    refine rj_iconst (pc := 26) dX7_start_26 ?_
    refine rc_putK5 (pc := 27) dX7_start_27 fX7_28 (by assumption) (by omega) (fun h_27 hW_27 hS_27 => ?_)
    refine r_aload_n (pc := 30) dX7_start_30 rfl (by first | rfl | exact isRefV_rf _) ?_
    refine rj_iconst (pc := 31) dX7_start_31 ?_
    refine rc_putK6 (pc := 32) dX7_start_32 fX7_31 (by assumption) (by omega) (fun h_32 hW_32 hS_32 => ?_)
    refine r_aload_n (pc := 35) dX7_start_35 rfl (by first | rfl | exact isRefV_rf _) ?_
    refine r_iload_n (pc := 36) dX7_start_36 rfl ?_
    refine rc_putK7 (pc := 37) dX7_start_37 fX7_34 (by assumption) (by omega) (fun h_37 hW_37 hS_37 => ?_)
    refine r_aload_n (pc := 40) dX7_start_40 rfl (by first | rfl | exact isRefV_rf _) ?_
    refine r_iload_n (pc := 41) dX7_start_41 rfl ?_
    refine rc_putK8 (pc := 42) dX7_start_42 fX7_37 (by assumption) (by omega) (fun h_42 hW_42 hS_42 => ?_)
    refine r_aload_n (pc := 45) dX7_start_45 rfl (by first | rfl | exact isRefV_rf _) ?_
    refine rj_iconst (pc := 46) dX7_start_46 ?_
    refine rc_putK9 (pc := 47) dX7_start_47 fX7_40 (by assumption) (by omega) (fun h_47 hW_47 hS_47 => ?_)
    refine r_aload_n (pc := 50) dX7_start_50 rfl (by first | rfl | exact isRefV_rf _) ?_
    refine rj_iconst (pc := 51) dX7_start_51 ?_
    refine rc_putK10 (pc := 52) dX7_start_52 fX7_43 (by assumption) (by omega) (by first | exact nar_J0 | exact nar_J1 | exact nar_b01 | assumption) (by first | exact fit_J0 | exact fit_J1 | assumption) (fun h_52 hW_52 hS_52 => ?_)
    refine r_return (pc := 55) dX7_start_55 rfl ?_
    exact ⟨rfl, hW_52, (((((((((hS_2.trans hS_7).trans hS_12).trans hS_17).trans hS_22).trans hS_27).trans hS_32).trans hS_37).trans hS_42).trans hS_47).trans hS_52⟩
end mg_92

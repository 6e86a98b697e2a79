section mg_d2
set_option maxHeartbeats 4000000 in
set_option maxRecDepth 100000 in
theorem kg_name {G : mG} {l : Launch} (d : Nat) {h : mH} {x : Nat} {kp tk : Option Nat} {zr : Nat → Int} {fr : Nat → Nat → Int} {p e o zt : Int} {ft : Nat → Int} {zs : Int} {fs : Nat → Int} {b za : Int} {fa : Nat → Int} {c : Nat → Int} {C : Nat → Nat → Int} {nm : Nat → Int64} {g : Nat → Option Nat} (hK : isK h x kp tk zr fr p e o zt ft zs fs b za fa c C nm g) (hc : ∀ q, InR (c q)) (hC : ∀ k q, InR (C k q)) {a : Int} (ha : InR a) {i : Int} (hi : InR i) : RUNM G l (d + 9) mX10_name [.ref x, .int (J a), .int (J i)] h (fun v h' => v = some (.int (J (if inW c 0 90 a then (if i = -1 then lnL (nm a.toNat) 7 0 else if letV (nm a.toNat) i = 0 then -1 else letV (nm a.toNat) i) else -1))) ∧ h' = h) := by
  refine RUNM.of (by decide +kernel) (Nat.le_of_ble_eq_true rfl) ?_
  have hD := hK.d
  have hS := hK.s
  have hR := hK.r
  have hW := hK.w
  refine r_aload_n (pc := 0) dX10_name_0 rfl (by first | rfl | exact isRefV_rf _) ?_
  refine r_getf (pc := 1) dX10_name_1 fX10_51 (by first | assumption | exact isI.gx (by assumption) | exact isI.gc (by assumption) | exact isW.gx (by assumption) | exact isW.gF (by assumption) | exact isW.gT (by assumption) (by omega) | exact isW.gS (by assumption) (by omega) | exact isW.gK (by assumption) (by omega) | exact isW.g1 (by assumption) | exact isW.g2 (by assumption) | exact isW.g3 (by assumption) | exact isI.gx (isW.i0 (by assumption)) | exact isI.gc (isW.i0 (by assumption)) | exact isI.gx (isW.i1 (by assumption)) | exact isI.gc (isW.i1 (by assumption)) | exact isI.gx (isW.i2 (by assumption)) | exact isI.gc (isW.i2 (by assumption)) | exact isI.gx (isW.i3 (by assumption)) | exact isI.gc (isW.i3 (by assumption)) | exact isI.gx (isW.i4 (by assumption)) | exact isI.gc (isW.i4 (by assumption)) | exact isI.gx (isW.i5 (by assumption)) | exact isI.gc (isW.i5 (by assumption)) | exact isR.gx (by assumption) | exact isRd.gx (by assumption) | exact isSp.gx (by assumption) | exact isI.gx (isR.i (by assumption)) | exact isI.gx (isRd.i (by assumption)) | exact isI.gc (isRd.i (by assumption)) | exact isI.gx (isSp.i (by assumption)) | exact isW.gx (isR.w (by assumption)) | exact isW.gF (isR.w (by assumption)) | exact isK.gx (by assumption) | exact isK.gr (by assumption) | exact isI.gx (isK.row (by assumption) (by omega)) | exact isI.gc (isK.row (by assumption) (by omega)) | fail "no such object") (by rfl) ?_
  refine r_iload_n (pc := 4) dX10_name_4 rfl ?_
  refine r_callV1 (pc := 5) dX10_name_5 qX9_thingAt kX10_63 vX9_thingAt (by first | assumption | exact isI.gx (by assumption) | exact isI.gc (by assumption) | exact isW.gx (by assumption) | exact isW.gF (by assumption) | exact isW.gT (by assumption) (by omega) | exact isW.gS (by assumption) (by omega) | exact isW.gK (by assumption) (by omega) | exact isW.g1 (by assumption) | exact isW.g2 (by assumption) | exact isW.g3 (by assumption) | exact isI.gx (isW.i0 (by assumption)) | exact isI.gc (isW.i0 (by assumption)) | exact isI.gx (isW.i1 (by assumption)) | exact isI.gc (isW.i1 (by assumption)) | exact isI.gx (isW.i2 (by assumption)) | exact isI.gc (isW.i2 (by assumption)) | exact isI.gx (isW.i3 (by assumption)) | exact isI.gc (isW.i3 (by assumption)) | exact isI.gx (isW.i4 (by assumption)) | exact isI.gc (isW.i4 (by assumption)) | exact isI.gx (isW.i5 (by assumption)) | exact isI.gc (isW.i5 (by assumption)) | exact isR.gx (by assumption) | exact isRd.gx (by assumption) | exact isSp.gx (by assumption) | exact isI.gx (isR.i (by assumption)) | exact isI.gx (isRd.i (by assumption)) | exact isI.gc (isRd.i (by assumption)) | exact isI.gx (isSp.i (by assumption)) | exact isW.gx (isR.w (by assumption)) | exact isW.gF (isR.w (by assumption)) | exact isK.gx (by assumption) | exact isK.gr (by assumption) | exact isI.gx (isK.row (by assumption) (by omega)) | exact isI.gc (isK.row (by assumption) (by omega)) | fail "no such object") rfl rfl (Nat.le_of_ble_eq_true rfl) (cw_thingAt _ hW hc ha) (fun v_5 h_5 q_5 => ?_)
  obtain ⟨q1_5, rfl⟩ := q_5
  by_cases e_5 : inW c 0 90 a
  · obtain rfl := thAt_P e_5 q1_5
    refine r_astore_n (pc := 8) dX10_name_8 (Nat.le_of_ble_eq_true rfl) (by first | rfl | exact isRefV_rf _) ?_
    dsimp only [lsSt, List.set, mLs, mEnt]
    refine r_aload_n (pc := 9) dX10_name_9 rfl (by first | rfl | exact isRefV_rf _) ?_
    refine r_ifnonnull (pc := 10) (tgt := 15) dX10_name_10 (by decide) (by first | rfl | exact isRefV_rf _) (fun a_10 c_10 => ?_) (fun c_10 => by cases c_10)
    refine r_iload_n (pc := 15) dX10_name_15 rfl ?_
    refine rj_iconst (pc := 16) dX10_name_16 ?_
    refine rj_icmp_ne (pc := 17) (tgt := 28) dX10_name_17 (by decide) (by first | exact b01_r | exact bz_r | omega | (constructor <;> omega) | apply_assumption | (apply atF_r; assumption) | fail "no range") (by first | exact b01_r | exact bz_r | omega | (constructor <;> omega) | apply_assumption | (apply atF_r; assumption) | fail "no range") (fun c_17 => ?_) (fun c_17 => ?_)
    · refine r_aload_n (pc := 28) dX10_name_28 rfl (by first | rfl | exact isRefV_rf _) ?_
      refine r_getf (pc := 29) dX10_name_29 fX10_186 (by first | assumption | exact isI.gx (by assumption) | exact isI.gc (by assumption) | exact isW.gx (by assumption) | exact isW.gF (by assumption) | exact isW.gT (by assumption) (by omega) | exact isW.gS (by assumption) (by omega) | exact isW.gK (by assumption) (by omega) | exact isW.g1 (by assumption) | exact isW.g2 (by assumption) | exact isW.g3 (by assumption) | exact isI.gx (isW.i0 (by assumption)) | exact isI.gc (isW.i0 (by assumption)) | exact isI.gx (isW.i1 (by assumption)) | exact isI.gc (isW.i1 (by assumption)) | exact isI.gx (isW.i2 (by assumption)) | exact isI.gc (isW.i2 (by assumption)) | exact isI.gx (isW.i3 (by assumption)) | exact isI.gc (isW.i3 (by assumption)) | exact isI.gx (isW.i4 (by assumption)) | exact isI.gc (isW.i4 (by assumption)) | exact isI.gx (isW.i5 (by assumption)) | exact isI.gc (isW.i5 (by assumption)) | exact isR.gx (by assumption) | exact isRd.gx (by assumption) | exact isSp.gx (by assumption) | exact isI.gx (isR.i (by assumption)) | exact isI.gx (isRd.i (by assumption)) | exact isI.gc (isRd.i (by assumption)) | exact isI.gx (isSp.i (by assumption)) | exact isW.gx (isR.w (by assumption)) | exact isW.gF (isR.w (by assumption)) | exact isK.gx (by assumption) | exact isK.gr (by assumption) | exact isI.gx (isK.row (by assumption) (by omega)) | exact isI.gc (isK.row (by assumption) (by omega)) | fail "no such object") (by rfl) ?_
      refine r_iload_n (pc := 32) dX10_name_32 rfl ?_
      refine r_callS2 (pc := 33) dX10_name_33 qX10_letterOf kX10_190 sX10_letterOf (Nat.le_of_ble_eq_true rfl) (cz_letterOf _ (y := nm a.toNat) hi) (fun v_33 h_33 q_33 => ?_)
      obtain ⟨rfl, rfl⟩ := q_33
      have rl := letV_r (nm a.toNat) i
      refine r_istore (pc := 36) dX10_name_36 (Nat.le_of_ble_eq_true rfl) ?_
      dsimp only [lsSt, List.set, mLs, mEnt]
      refine r_iload (pc := 38) dX10_name_38 rfl ?_
      refine rj_if_ne (pc := 40) (tgt := 47) dX10_name_40 (by decide) (by first | exact b01_r | exact bz_r | omega | (constructor <;> omega) | apply_assumption | (apply atF_r; assumption) | fail "no range") (fun c_40 => ?_) (fun c_40 => ?_)
      · try simp only [b01_0, bz_0, Classical.not_not] at c_40
        refine r_iload (pc := 47) dX10_name_47 rfl ?_
        refine r_ireturn (pc := 49) .int dX10_name_49 rfl (by first | rfl | assumption) ?_
        refine ⟨?_, rfl⟩
        first | (rw [if_neg (by assumption)]; done) | (rw [if_pos (by assumption), if_pos (by omega)]; done) | (rw [if_pos (by assumption), if_neg (by omega), if_pos (by assumption)]; done) | (rw [if_pos (by assumption), if_neg (by omega), if_neg (by assumption)]; done)
      · try simp only [b01_0, bz_0, Classical.not_not] at c_40
        refine rj_iconst (pc := 43) dX10_name_43 ?_
        refine r_goto (pc := 44) (tgt := 49) dX10_name_44 (by decide) ?_
        refine r_ireturn (pc := 49) .int dX10_name_49 rfl (by first | rfl | assumption) ?_
        refine ⟨?_, rfl⟩
        first | (rw [if_neg (by assumption)]; done) | (rw [if_pos (by assumption), if_pos (by omega)]; done) | (rw [if_pos (by assumption), if_neg (by omega), if_pos (by assumption)]; done) | (rw [if_pos (by assumption), if_neg (by omega), if_neg (by assumption)]; done)
    · refine r_aload_n (pc := 20) dX10_name_20 rfl (by first | rfl | exact isRefV_rf _) ?_
      refine r_getf (pc := 21) dX10_name_21 fX10_186 (by first | assumption | exact isI.gx (by assumption) | exact isI.gc (by assumption) | exact isW.gx (by assumption) | exact isW.gF (by assumption) | exact isW.gT (by assumption) (by omega) | exact isW.gS (by assumption) (by omega) | exact isW.gK (by assumption) (by omega) | exact isW.g1 (by assumption) | exact isW.g2 (by assumption) | exact isW.g3 (by assumption) | exact isI.gx (isW.i0 (by assumption)) | exact isI.gc (isW.i0 (by assumption)) | exact isI.gx (isW.i1 (by assumption)) | exact isI.gc (isW.i1 (by assumption)) | exact isI.gx (isW.i2 (by assumption)) | exact isI.gc (isW.i2 (by assumption)) | exact isI.gx (isW.i3 (by assumption)) | exact isI.gc (isW.i3 (by assumption)) | exact isI.gx (isW.i4 (by assumption)) | exact isI.gc (isW.i4 (by assumption)) | exact isI.gx (isW.i5 (by assumption)) | exact isI.gc (isW.i5 (by assumption)) | exact isR.gx (by assumption) | exact isRd.gx (by assumption) | exact isSp.gx (by assumption) | exact isI.gx (isR.i (by assumption)) | exact isI.gx (isRd.i (by assumption)) | exact isI.gc (isRd.i (by assumption)) | exact isI.gx (isSp.i (by assumption)) | exact isW.gx (isR.w (by assumption)) | exact isW.gF (isR.w (by assumption)) | exact isK.gx (by assumption) | exact isK.gr (by assumption) | exact isI.gx (isK.row (by assumption) (by omega)) | exact isI.gc (isK.row (by assumption) (by omega)) | fail "no such object") (by rfl) ?_
      refine r_callS1 (pc := 24) dX10_name_24 qX10_lettersOf kX10_187 sX10_lettersOf (Nat.le_of_ble_eq_true rfl) (cz_lettersOf _ (y := nm a.toNat)) (fun v_24 h_24 q_24 => ?_)
      obtain ⟨rfl, rfl⟩ := q_24
      refine r_ireturn (pc := 27) .int dX10_name_27 rfl (by first | rfl | assumption) ?_
      refine ⟨?_, rfl⟩
      first | (rw [if_neg (by assumption)]; done) | (rw [if_pos (by assumption), if_pos (by omega)]; done) | (rw [if_pos (by assumption), if_neg (by omega), if_pos (by assumption)]; done) | (rw [if_pos (by assumption), if_neg (by omega), if_neg (by assumption)]; done)
  · obtain rfl := thAt_N e_5 q1_5
    refine r_astore_n (pc := 8) dX10_name_8 (Nat.le_of_ble_eq_true rfl) (by first | rfl | exact isRefV_rf _) ?_
    dsimp only [lsSt, List.set, mLs, mEnt]
    refine r_aload_n (pc := 9) dX10_name_9 rfl (by first | rfl | exact isRefV_rf _) ?_
    refine r_ifnonnull (pc := 10) (tgt := 15) dX10_name_10 (by decide) (by first | rfl | exact isRefV_rf _) (fun a_10 c_10 => by cases c_10) (fun c_10 => ?_)
    refine rj_iconst (pc := 13) dX10_name_13 ?_
    refine r_ireturn (pc := 14) .int dX10_name_14 rfl (by first | rfl | assumption) ?_
    refine ⟨?_, rfl⟩
    first | (rw [if_neg (by assumption)]; done) | (rw [if_pos (by assumption), if_pos (by omega)]; done) | (rw [if_pos (by assumption), if_neg (by omega), if_pos (by assumption)]; done) | (rw [if_pos (by assumption), if_neg (by omega), if_neg (by assumption)]; done)
end mg_d2

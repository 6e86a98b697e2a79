section mg_f2
set_option maxHeartbeats 4000000 in
set_option maxRecDepth 100000 in
theorem kg_thing {G : mG} {l : Launch} (d : Nat) {h : mH} {x : Nat} {kp tk : Option Nat} {zr : Nat → Int} {fr : Nat → Nat → Int} {p e o zt : Int} {ft : Nat → Int} {zs : Int} {fs : Nat → Int} {b za : Int} {fa : Nat → Int} {c : Nat → Int} {C : Nat → Nat → Int} {nm : Nat → Int64} {g : Nat → Option Nat} (hK : isK h x kp tk zr fr p e o zt ft zs fs b za fa c C nm g) (hc : ∀ q, InR (c q)) (hC : ∀ k q, InR (C k q)) {a : Int} (ha : InR a) {i : Int} (hi : InR i) {m1 : Nat} (hr : inW c 0 90 a → chL (hGet h) m1 (g (2 * a.toNat))) (hm : m1 ≤ 1000) : RUNM G l (d + 9) mX10_thing [.ref x, .int (J a), .int (J i)] h (fun v h' => v = some (.int (J (if inW c 0 90 a then (if i = 0 then c (32 + 3 * a.toNat) else if i = 1 then c (33 + 3 * a.toNat) else if i = 2 then c (34 + 3 * a.toNat) else if i = 3 then (m1 : Int) else -1) else -1))) ∧ h' = h) := by
  refine RUNM.of (by decide +kernel) (Nat.le_of_ble_eq_true rfl) ?_
  have hD := hK.d
  have hS := hK.s
  have hR := hK.r
  have hW := hK.w
  refine r_aload_n (pc := 0) dX10_thing_0 rfl (by first | rfl | exact isRefV_rf _) ?_
  refine r_getf (pc := 1) dX10_thing_1 fX10_51 (by first | assumption | exact isI.gx (by assumption) | exact isI.gc (by assumption) | exact isW.gx (by assumption) | exact isW.gF (by assumption) | exact isW.gT (by assumption) (by omega) | exact isW.gS (by assumption) (by omega) | exact isW.gK (by assumption) (by omega) | exact isW.g1 (by assumption) | exact isW.g2 (by assumption) | exact isW.g3 (by assumption) | exact isI.gx (isW.i0 (by assumption)) | exact isI.gc (isW.i0 (by assumption)) | exact isI.gx (isW.i1 (by assumption)) | exact isI.gc (isW.i1 (by assumption)) | exact isI.gx (isW.i2 (by assumption)) | exact isI.gc (isW.i2 (by assumption)) | exact isI.gx (isW.i3 (by assumption)) | exact isI.gc (isW.i3 (by assumption)) | exact isI.gx (isW.i4 (by assumption)) | exact isI.gc (isW.i4 (by assumption)) | exact isI.gx (isW.i5 (by assumption)) | exact isI.gc (isW.i5 (by assumption)) | exact isR.gx (by assumption) | exact isRd.gx (by assumption) | exact isSp.gx (by assumption) | exact isI.gx (isR.i (by assumption)) | exact isI.gx (isRd.i (by assumption)) | exact isI.gc (isRd.i (by assumption)) | exact isI.gx (isSp.i (by assumption)) | exact isW.gx (isR.w (by assumption)) | exact isW.gF (isR.w (by assumption)) | exact isK.gx (by assumption) | exact isK.gr (by assumption) | exact isI.gx (isK.row (by assumption) (by omega)) | exact isI.gc (isK.row (by assumption) (by omega)) | fail "no such object") (by rfl) ?_
  refine r_iload_n (pc := 4) dX10_thing_4 rfl ?_
  refine r_callV1 (pc := 5) dX10_thing_5 qX9_thingAt kX10_63 vX9_thingAt (by first | assumption | exact isI.gx (by assumption) | exact isI.gc (by assumption) | exact isW.gx (by assumption) | exact isW.gF (by assumption) | exact isW.gT (by assumption) (by omega) | exact isW.gS (by assumption) (by omega) | exact isW.gK (by assumption) (by omega) | exact isW.g1 (by assumption) | exact isW.g2 (by assumption) | exact isW.g3 (by assumption) | exact isI.gx (isW.i0 (by assumption)) | exact isI.gc (isW.i0 (by assumption)) | exact isI.gx (isW.i1 (by assumption)) | exact isI.gc (isW.i1 (by assumption)) | exact isI.gx (isW.i2 (by assumption)) | exact isI.gc (isW.i2 (by assumption)) | exact isI.gx (isW.i3 (by assumption)) | exact isI.gc (isW.i3 (by assumption)) | exact isI.gx (isW.i4 (by assumption)) | exact isI.gc (isW.i4 (by assumption)) | exact isI.gx (isW.i5 (by assumption)) | exact isI.gc (isW.i5 (by assumption)) | exact isR.gx (by assumption) | exact isRd.gx (by assumption) | exact isSp.gx (by assumption) | exact isI.gx (isR.i (by assumption)) | exact isI.gx (isRd.i (by assumption)) | exact isI.gc (isRd.i (by assumption)) | exact isI.gx (isSp.i (by assumption)) | exact isW.gx (isR.w (by assumption)) | exact isW.gF (isR.w (by assumption)) | exact isK.gx (by assumption) | exact isK.gr (by assumption) | exact isI.gx (isK.row (by assumption) (by omega)) | exact isI.gc (isK.row (by assumption) (by omega)) | fail "no such object") rfl rfl (Nat.le_of_ble_eq_true rfl) (cw_thingAt _ hW hc ha) (fun v_5 h_5 q_5 => ?_)
  obtain ⟨q1_5, rfl⟩ := q_5
  by_cases e_5 : inW c 0 90 a
  · obtain rfl := thAt_P e_5 q1_5
    refine r_astore_n (pc := 8) dX10_thing_8 (Nat.le_of_ble_eq_true rfl) (by first | rfl | exact isRefV_rf _) ?_
    dsimp only [lsSt, List.set, mLs, mEnt]
    refine r_aload_n (pc := 9) dX10_thing_9 rfl (by first | rfl | exact isRefV_rf _) ?_
    refine r_ifnonnull (pc := 10) (tgt := 15) dX10_thing_10 (by decide) (by first | rfl | exact isRefV_rf _) (fun a_10 c_10 => ?_) (fun c_10 => by cases c_10)
    refine r_iload_n (pc := 15) dX10_thing_15 rfl ?_
    refine rj_tsw (pc := 16) dX10_thing_16 (by first | exact b01_r | exact bz_r | omega | (constructor <;> omega) | apply_assumption | (apply atF_r; assumption) | fail "no range") (by decide) (by decide) (by decide) (fun off_16 tgt_16 ho_16 ht_16 => ?_)
    by_cases e_16_0 : i = 0
    · rw [e_16_0] at ho_16
      obtain rfl : off_16 = 32 := ho_16.symm.trans (by decide)
      obtain rfl : tgt_16 = 48 := by omega
      refine r_aload_n (pc := 48) dX10_thing_48 rfl (by first | rfl | exact isRefV_rf _) ?_
      refine r_getf (pc := 49) dX10_thing_49 fX10_136 (by first | assumption | exact isI.gx (by assumption) | exact isI.gc (by assumption) | exact isW.gx (by assumption) | exact isW.gF (by assumption) | exact isW.gT (by assumption) (by omega) | exact isW.gS (by assumption) (by omega) | exact isW.gK (by assumption) (by omega) | exact isW.g1 (by assumption) | exact isW.g2 (by assumption) | exact isW.g3 (by assumption) | exact isI.gx (isW.i0 (by assumption)) | exact isI.gc (isW.i0 (by assumption)) | exact isI.gx (isW.i1 (by assumption)) | exact isI.gc (isW.i1 (by assumption)) | exact isI.gx (isW.i2 (by assumption)) | exact isI.gc (isW.i2 (by assumption)) | exact isI.gx (isW.i3 (by assumption)) | exact isI.gc (isW.i3 (by assumption)) | exact isI.gx (isW.i4 (by assumption)) | exact isI.gc (isW.i4 (by assumption)) | exact isI.gx (isW.i5 (by assumption)) | exact isI.gc (isW.i5 (by assumption)) | exact isR.gx (by assumption) | exact isRd.gx (by assumption) | exact isSp.gx (by assumption) | exact isI.gx (isR.i (by assumption)) | exact isI.gx (isRd.i (by assumption)) | exact isI.gc (isRd.i (by assumption)) | exact isI.gx (isSp.i (by assumption)) | exact isW.gx (isR.w (by assumption)) | exact isW.gF (isR.w (by assumption)) | exact isK.gx (by assumption) | exact isK.gr (by assumption) | exact isI.gx (isK.row (by assumption) (by omega)) | exact isI.gc (isK.row (by assumption) (by omega)) | fail "no such object") (by rfl) ?_
      refine r_ireturn (pc := 52) .int dX10_thing_52 rfl (by first | rfl | assumption) ?_
      refine ⟨?_, rfl⟩
      first | (rw [if_neg (by assumption)]; done) | (rw [if_pos (by assumption)]; (repeat' split) <;> first | rfl | (exfalso; omega))
    by_cases e_16_1 : i = 1
    · rw [e_16_1] at ho_16
      obtain rfl : off_16 = 37 := ho_16.symm.trans (by decide)
      obtain rfl : tgt_16 = 53 := by omega
      refine r_aload_n (pc := 53) dX10_thing_53 rfl (by first | rfl | exact isRefV_rf _) ?_
      refine r_getf (pc := 54) dX10_thing_54 fX10_177 (by first | assumption | exact isI.gx (by assumption) | exact isI.gc (by assumption) | exact isW.gx (by assumption) | exact isW.gF (by assumption) | exact isW.gT (by assumption) (by omega) | exact isW.gS (by assumption) (by omega) | exact isW.gK (by assumption) (by omega) | exact isW.g1 (by assumption) | exact isW.g2 (by assumption) | exact isW.g3 (by assumption) | exact isI.gx (isW.i0 (by assumption)) | exact isI.gc (isW.i0 (by assumption)) | exact isI.gx (isW.i1 (by assumption)) | exact isI.gc (isW.i1 (by assumption)) | exact isI.gx (isW.i2 (by assumption)) | exact isI.gc (isW.i2 (by assumption)) | exact isI.gx (isW.i3 (by assumption)) | exact isI.gc (isW.i3 (by assumption)) | exact isI.gx (isW.i4 (by assumption)) | exact isI.gc (isW.i4 (by assumption)) | exact isI.gx (isW.i5 (by assumption)) | exact isI.gc (isW.i5 (by assumption)) | exact isR.gx (by assumption) | exact isRd.gx (by assumption) | exact isSp.gx (by assumption) | exact isI.gx (isR.i (by assumption)) | exact isI.gx (isRd.i (by assumption)) | exact isI.gc (isRd.i (by assumption)) | exact isI.gx (isSp.i (by assumption)) | exact isW.gx (isR.w (by assumption)) | exact isW.gF (isR.w (by assumption)) | exact isK.gx (by assumption) | exact isK.gr (by assumption) | exact isI.gx (isK.row (by assumption) (by omega)) | exact isI.gc (isK.row (by assumption) (by omega)) | fail "no such object") (by rfl) ?_
      refine r_ireturn (pc := 57) .int dX10_thing_57 rfl (by first | rfl | assumption) ?_
      refine ⟨?_, rfl⟩
      first | (rw [if_neg (by assumption)]; done) | (rw [if_pos (by assumption)]; (repeat' split) <;> first | rfl | (exfalso; omega))
    by_cases e_16_2 : i = 2
    · rw [e_16_2] at ho_16
      obtain rfl : off_16 = 42 := ho_16.symm.trans (by decide)
      obtain rfl : tgt_16 = 58 := by omega
      refine r_aload_n (pc := 58) dX10_thing_58 rfl (by first | rfl | exact isRefV_rf _) ?_
      refine r_getf (pc := 59) dX10_thing_59 fX10_180 (by first | assumption | exact isI.gx (by assumption) | exact isI.gc (by assumption) | exact isW.gx (by assumption) | exact isW.gF (by assumption) | exact isW.gT (by assumption) (by omega) | exact isW.gS (by assumption) (by omega) | exact isW.gK (by assumption) (by omega) | exact isW.g1 (by assumption) | exact isW.g2 (by assumption) | exact isW.g3 (by assumption) | exact isI.gx (isW.i0 (by assumption)) | exact isI.gc (isW.i0 (by assumption)) | exact isI.gx (isW.i1 (by assumption)) | exact isI.gc (isW.i1 (by assumption)) | exact isI.gx (isW.i2 (by assumption)) | exact isI.gc (isW.i2 (by assumption)) | exact isI.gx (isW.i3 (by assumption)) | exact isI.gc (isW.i3 (by assumption)) | exact isI.gx (isW.i4 (by assumption)) | exact isI.gc (isW.i4 (by assumption)) | exact isI.gx (isW.i5 (by assumption)) | exact isI.gc (isW.i5 (by assumption)) | exact isR.gx (by assumption) | exact isRd.gx (by assumption) | exact isSp.gx (by assumption) | exact isI.gx (isR.i (by assumption)) | exact isI.gx (isRd.i (by assumption)) | exact isI.gc (isRd.i (by assumption)) | exact isI.gx (isSp.i (by assumption)) | exact isW.gx (isR.w (by assumption)) | exact isW.gF (isR.w (by assumption)) | exact isK.gx (by assumption) | exact isK.gr (by assumption) | exact isI.gx (isK.row (by assumption) (by omega)) | exact isI.gc (isK.row (by assumption) (by omega)) | fail "no such object") (by rfl) ?_
      refine r_ireturn (pc := 62) .int dX10_thing_62 rfl (by first | rfl | assumption) ?_
      refine ⟨?_, rfl⟩
      first | (rw [if_neg (by assumption)]; done) | (rw [if_pos (by assumption)]; (repeat' split) <;> first | rfl | (exfalso; omega))
    by_cases e_16_3 : i = 3
    · rw [e_16_3] at ho_16
      obtain rfl : off_16 = 47 := ho_16.symm.trans (by decide)
      obtain rfl : tgt_16 = 63 := by omega
      refine r_aload_n (pc := 63) dX10_thing_63 rfl (by first | rfl | exact isRefV_rf _) ?_
      refine r_getf (pc := 64) dX10_thing_64 fX10_69 (by first | assumption | exact isI.gx (by assumption) | exact isI.gc (by assumption) | exact isW.gx (by assumption) | exact isW.gF (by assumption) | exact isW.gT (by assumption) (by omega) | exact isW.gS (by assumption) (by omega) | exact isW.gK (by assumption) (by omega) | exact isW.g1 (by assumption) | exact isW.g2 (by assumption) | exact isW.g3 (by assumption) | exact isI.gx (isW.i0 (by assumption)) | exact isI.gc (isW.i0 (by assumption)) | exact isI.gx (isW.i1 (by assumption)) | exact isI.gc (isW.i1 (by assumption)) | exact isI.gx (isW.i2 (by assumption)) | exact isI.gc (isW.i2 (by assumption)) | exact isI.gx (isW.i3 (by assumption)) | exact isI.gc (isW.i3 (by assumption)) | exact isI.gx (isW.i4 (by assumption)) | exact isI.gc (isW.i4 (by assumption)) | exact isI.gx (isW.i5 (by assumption)) | exact isI.gc (isW.i5 (by assumption)) | exact isR.gx (by assumption) | exact isRd.gx (by assumption) | exact isSp.gx (by assumption) | exact isI.gx (isR.i (by assumption)) | exact isI.gx (isRd.i (by assumption)) | exact isI.gc (isRd.i (by assumption)) | exact isI.gx (isSp.i (by assumption)) | exact isW.gx (isR.w (by assumption)) | exact isW.gF (isR.w (by assumption)) | exact isK.gx (by assumption) | exact isK.gr (by assumption) | exact isI.gx (isK.row (by assumption) (by omega)) | exact isI.gc (isK.row (by assumption) (by omega)) | fail "no such object") (by rfl) ?_
      refine r_callS1 (pc := 67) dX10_thing_67 qX10_stepsFrom kX10_183 sX10_stepsFrom (Nat.le_of_ble_eq_true rfl) (kg_stepsFrom _ (hr e_5) hm) (fun v_67 h_67 q_67 => ?_)
      obtain ⟨rfl, rfl⟩ := q_67
      refine r_ireturn (pc := 70) .int dX10_thing_70 rfl (by first | rfl | assumption) ?_
      refine ⟨?_, rfl⟩
      first | (rw [if_neg (by assumption)]; done) | (rw [if_pos (by assumption)]; (repeat' split) <;> first | rfl | (exfalso; omega))
    have eo_16 : off_16 = 55 := by
      rw [← ho_16]
      unfold tswOff
      rw [if_pos (by omega)]
    obtain rfl : tgt_16 = 71 := by omega
    refine rj_iconst (pc := 71) dX10_thing_71 ?_
    refine r_ireturn (pc := 72) .int dX10_thing_72 rfl (by first | rfl | assumption) ?_
    refine ⟨?_, rfl⟩
    first | (rw [if_neg (by assumption)]; done) | (rw [if_pos (by assumption)]; (repeat' split) <;> first | rfl | (exfalso; omega))
  · obtain rfl := thAt_N e_5 q1_5
    refine r_astore_n (pc := 8) dX10_thing_8 (Nat.le_of_ble_eq_true rfl) (by first | rfl | exact isRefV_rf _) ?_
    dsimp only [lsSt, List.set, mLs, mEnt]
    refine r_aload_n (pc := 9) dX10_thing_9 rfl (by first | rfl | exact isRefV_rf _) ?_
    refine r_ifnonnull (pc := 10) (tgt := 15) dX10_thing_10 (by decide) (by first | rfl | exact isRefV_rf _) (fun a_10 c_10 => by cases c_10) (fun c_10 => ?_)
    refine rj_iconst (pc := 13) dX10_thing_13 ?_
    refine r_ireturn (pc := 14) .int dX10_thing_14 rfl (by first | rfl | assumption) ?_
    refine ⟨?_, rfl⟩
    first | (rw [if_neg (by assumption)]; done) | (rw [if_pos (by assumption)]; (repeat' split) <;> first | rfl | (exfalso; omega))
end mg_f2

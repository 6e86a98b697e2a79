section mg_f2
set_option maxHeartbeats 4000000 in
set_option maxRecDepth 100000 in
theorem kg_of {G : mG} {l : Launch} (d : Nat) {h : mH} {x : Nat} {kp tk : Option Nat} {zr : Nat → Int} {fr : Nat → Nat → Int} {p e o zt : Int} {ft : Nat → Int} {zs : Int} {fs : Nat → Int} {b za : Int} {fa : Nat → Int} {c : Nat → Int} {C : Nat → Nat → Int} {nm : Nat → Int64} {g : Nat → Option Nat} (hK : isK h x kp tk zr fr p e o zt ft zs fs b za fa c C nm g) (hc : ∀ q, InR (c q)) (hC : ∀ k q, InR (C k q)) {a : Int} (ha : InR a) {i : Int} (hi : InR i) {m1 : Nat} (hr : inW c 2 10 a → chL (hGet h) m1 (g (180 + 2 * a.toNat))) (hm : m1 ≤ 1000) {S : Nat} (hS1 : c 1 = (S : Int)) (hcapS : S ≤ 60) : RUNM G l (d + 9) mX10_of [.ref x, .int (J a), .int (J i)] h (fun v h' => v = some (.int (J (if inW c 2 10 a then (if i = 0 then c (489 + 9 * a.toNat) else if i = 1 then c (490 + 9 * a.toNat) + 100 else if i = 2 then c (491 + 9 * a.toNat) else if i = 3 then c (493 + 9 * a.toNat) else if i = 4 then cnt (nsB c a) S else if i = 5 then c (488 + 9 * a.toNat) else if i = 6 then (if c (496 + 9 * a.toNat) = 0 then 0 else 1) else if i = 7 then (m1 : Int) else -1) else -1))) ∧ h' = h) := by
  refine RUNM.of (by decide +kernel) (Nat.le_of_ble_eq_true rfl) ?_
  have hD := hK.d
  have hS := hK.s
  have hR := hK.r
  have hW := hK.w
  refine r_aload_n (pc := 0) dX10_of_0 rfl (by first | rfl | exact isRefV_rf _) ?_
  refine r_getf (pc := 1) dX10_of_1 fX10_51 (by first | assumption | exact isI.gx (by assumption) | exact isI.gc (by assumption) | exact isW.gx (by assumption) | exact isW.gF (by assumption) | exact isW.gT (by assumption) (by omega) | exact isW.gS (by assumption) (by omega) | exact isW.gK (by assumption) (by omega) | exact isW.g1 (by assumption) | exact isW.g2 (by assumption) | exact isW.g3 (by assumption) | exact isI.gx (isW.i0 (by assumption)) | exact isI.gc (isW.i0 (by assumption)) | exact isI.gx (isW.i1 (by assumption)) | exact isI.gc (isW.i1 (by assumption)) | exact isI.gx (isW.i2 (by assumption)) | exact isI.gc (isW.i2 (by assumption)) | exact isI.gx (isW.i3 (by assumption)) | exact isI.gc (isW.i3 (by assumption)) | exact isI.gx (isW.i4 (by assumption)) | exact isI.gc (isW.i4 (by assumption)) | exact isI.gx (isW.i5 (by assumption)) | exact isI.gc (isW.i5 (by assumption)) | exact isR.gx (by assumption) | exact isRd.gx (by assumption) | exact isSp.gx (by assumption) | exact isI.gx (isR.i (by assumption)) | exact isI.gx (isRd.i (by assumption)) | exact isI.gc (isRd.i (by assumption)) | exact isI.gx (isSp.i (by assumption)) | exact isW.gx (isR.w (by assumption)) | exact isW.gF (isR.w (by assumption)) | exact isK.gx (by assumption) | exact isK.gr (by assumption) | exact isI.gx (isK.row (by assumption) (by omega)) | exact isI.gc (isK.row (by assumption) (by omega)) | fail "no such object") (by rfl) ?_
  refine r_iload_n (pc := 4) dX10_of_4 rfl ?_
  refine r_callV1 (pc := 5) dX10_of_5 qX9_taskAt kX10_79 vX9_taskAt (by first | assumption | exact isI.gx (by assumption) | exact isI.gc (by assumption) | exact isW.gx (by assumption) | exact isW.gF (by assumption) | exact isW.gT (by assumption) (by omega) | exact isW.gS (by assumption) (by omega) | exact isW.gK (by assumption) (by omega) | exact isW.g1 (by assumption) | exact isW.g2 (by assumption) | exact isW.g3 (by assumption) | exact isI.gx (isW.i0 (by assumption)) | exact isI.gc (isW.i0 (by assumption)) | exact isI.gx (isW.i1 (by assumption)) | exact isI.gc (isW.i1 (by assumption)) | exact isI.gx (isW.i2 (by assumption)) | exact isI.gc (isW.i2 (by assumption)) | exact isI.gx (isW.i3 (by assumption)) | exact isI.gc (isW.i3 (by assumption)) | exact isI.gx (isW.i4 (by assumption)) | exact isI.gc (isW.i4 (by assumption)) | exact isI.gx (isW.i5 (by assumption)) | exact isI.gc (isW.i5 (by assumption)) | exact isR.gx (by assumption) | exact isRd.gx (by assumption) | exact isSp.gx (by assumption) | exact isI.gx (isR.i (by assumption)) | exact isI.gx (isRd.i (by assumption)) | exact isI.gc (isRd.i (by assumption)) | exact isI.gx (isSp.i (by assumption)) | exact isW.gx (isR.w (by assumption)) | exact isW.gF (isR.w (by assumption)) | exact isK.gx (by assumption) | exact isK.gr (by assumption) | exact isI.gx (isK.row (by assumption) (by omega)) | exact isI.gc (isK.row (by assumption) (by omega)) | fail "no such object") rfl rfl (Nat.le_of_ble_eq_true rfl) (cw_taskAt _ hW hc ha) (fun v_5 h_5 q_5 => ?_)
  obtain ⟨q1_5, rfl⟩ := q_5
  by_cases e_5 : inW c 2 10 a
  · obtain rfl := tkAt_P e_5 q1_5
    refine r_astore_n (pc := 8) dX10_of_8 (Nat.le_of_ble_eq_true rfl) (by first | rfl | exact isRefV_rf _) ?_
    dsimp only [lsSt, List.set, mLs, mEnt]
    refine r_aload_n (pc := 9) dX10_of_9 rfl (by first | rfl | exact isRefV_rf _) ?_
    refine r_ifnonnull (pc := 10) (tgt := 15) dX10_of_10 (by decide) (by first | rfl | exact isRefV_rf _) (fun a_10 c_10 => ?_) (fun c_10 => by cases c_10)
    refine r_iload_n (pc := 15) dX10_of_15 rfl ?_
    refine rj_tsw (pc := 16) dX10_of_16 (by first | exact b01_r | exact bz_r | omega | (constructor <;> omega) | apply_assumption | (apply atF_r; assumption) | fail "no range") (by decide) (by decide) (by decide) (fun off_16 tgt_16 ho_16 ht_16 => ?_)
    by_cases e_16_0 : i = 0
    · rw [e_16_0] at ho_16
      obtain rfl : off_16 = 48 := ho_16.symm.trans (by decide)
      obtain rfl : tgt_16 = 64 := by omega
      refine r_aload_n (pc := 64) dX10_of_64 rfl (by first | rfl | exact isRefV_rf _) ?_
      refine r_getf (pc := 65) dX10_of_65 fX10_230 (by first | assumption | exact isI.gx (by assumption) | exact isI.gc (by assumption) | exact isW.gx (by assumption) | exact isW.gF (by assumption) | exact isW.gT (by assumption) (by omega) | exact isW.gS (by assumption) (by omega) | exact isW.gK (by assumption) (by omega) | exact isW.g1 (by assumption) | exact isW.g2 (by assumption) | exact isW.g3 (by assumption) | exact isI.gx (isW.i0 (by assumption)) | exact isI.gc (isW.i0 (by assumption)) | exact isI.gx (isW.i1 (by assumption)) | exact isI.gc (isW.i1 (by assumption)) | exact isI.gx (isW.i2 (by assumption)) | exact isI.gc (isW.i2 (by assumption)) | exact isI.gx (isW.i3 (by assumption)) | exact isI.gc (isW.i3 (by assumption)) | exact isI.gx (isW.i4 (by assumption)) | exact isI.gc (isW.i4 (by assumption)) | exact isI.gx (isW.i5 (by assumption)) | exact isI.gc (isW.i5 (by assumption)) | exact isR.gx (by assumption) | exact isRd.gx (by assumption) | exact isSp.gx (by assumption) | exact isI.gx (isR.i (by assumption)) | exact isI.gx (isRd.i (by assumption)) | exact isI.gc (isRd.i (by assumption)) | exact isI.gx (isSp.i (by assumption)) | exact isW.gx (isR.w (by assumption)) | exact isW.gF (isR.w (by assumption)) | exact isK.gx (by assumption) | exact isK.gr (by assumption) | exact isI.gx (isK.row (by assumption) (by omega)) | exact isI.gc (isK.row (by assumption) (by omega)) | fail "no such object") (by rfl) ?_
      refine r_ireturn (pc := 68) .int dX10_of_68 rfl (by first | rfl | assumption) ?_
      refine ⟨?_, rfl⟩
      first | (rw [if_neg (by assumption)]; done) | (rw [if_pos (by assumption)]; (repeat' split) <;> first | rfl | (exfalso; omega))
    by_cases e_16_1 : i = 1
    · rw [e_16_1] at ho_16
      obtain rfl : off_16 = 53 := ho_16.symm.trans (by decide)
      obtain rfl : tgt_16 = 69 := by omega
      refine r_aload_n (pc := 69) dX10_of_69 rfl (by first | rfl | exact isRefV_rf _) ?_
      refine r_getf (pc := 70) dX10_of_70 fX10_258 (by first | assumption | exact isI.gx (by assumption) | exact isI.gc (by assumption) | exact isW.gx (by assumption) | exact isW.gF (by assumption) | exact isW.gT (by assumption) (by omega) | exact isW.gS (by assumption) (by omega) | exact isW.gK (by assumption) (by omega) | exact isW.g1 (by assumption) | exact isW.g2 (by assumption) | exact isW.g3 (by assumption) | exact isI.gx (isW.i0 (by assumption)) | exact isI.gc (isW.i0 (by assumption)) | exact isI.gx (isW.i1 (by assumption)) | exact isI.gc (isW.i1 (by assumption)) | exact isI.gx (isW.i2 (by assumption)) | exact isI.gc (isW.i2 (by assumption)) | exact isI.gx (isW.i3 (by assumption)) | exact isI.gc (isW.i3 (by assumption)) | exact isI.gx (isW.i4 (by assumption)) | exact isI.gc (isW.i4 (by assumption)) | exact isI.gx (isW.i5 (by assumption)) | exact isI.gc (isW.i5 (by assumption)) | exact isR.gx (by assumption) | exact isRd.gx (by assumption) | exact isSp.gx (by assumption) | exact isI.gx (isR.i (by assumption)) | exact isI.gx (isRd.i (by assumption)) | exact isI.gc (isRd.i (by assumption)) | exact isI.gx (isSp.i (by assumption)) | exact isW.gx (isR.w (by assumption)) | exact isW.gF (isR.w (by assumption)) | exact isK.gx (by assumption) | exact isK.gr (by assumption) | exact isI.gx (isK.row (by assumption) (by omega)) | exact isI.gc (isK.row (by assumption) (by omega)) | fail "no such object") (by rfl) ?_
      refine rj_bipush (pc := 73) dX10_of_73 (by decide +kernel) ?_
      refine rj_iadd (pc := 75) dX10_of_75 ?_
      refine r_ireturn (pc := 76) .int dX10_of_76 rfl (by first | rfl | assumption) ?_
      refine ⟨?_, rfl⟩
      first | (rw [if_neg (by assumption)]; done) | (rw [if_pos (by assumption)]; (repeat' split) <;> first | rfl | (exfalso; omega))
    by_cases e_16_2 : i = 2
    · rw [e_16_2] at ho_16
      obtain rfl : off_16 = 61 := ho_16.symm.trans (by decide)
      obtain rfl : tgt_16 = 77 := by omega
      refine r_aload_n (pc := 77) dX10_of_77 rfl (by first | rfl | exact isRefV_rf _) ?_
      refine r_getf (pc := 78) dX10_of_78 fX10_231 (by first | assumption | exact isI.gx (by assumption) | exact isI.gc (by assumption) | exact isW.gx (by assumption) | exact isW.gF (by assumption) | exact isW.gT (by assumption) (by omega) | exact isW.gS (by assumption) (by omega) | exact isW.gK (by assumption) (by omega) | exact isW.g1 (by assumption) | exact isW.g2 (by assumption) | exact isW.g3 (by assumption) | exact isI.gx (isW.i0 (by assumption)) | exact isI.gc (isW.i0 (by assumption)) | exact isI.gx (isW.i1 (by assumption)) | exact isI.gc (isW.i1 (by assumption)) | exact isI.gx (isW.i2 (by assumption)) | exact isI.gc (isW.i2 (by assumption)) | exact isI.gx (isW.i3 (by assumption)) | exact isI.gc (isW.i3 (by assumption)) | exact isI.gx (isW.i4 (by assumption)) | exact isI.gc (isW.i4 (by assumption)) | exact isI.gx (isW.i5 (by assumption)) | exact isI.gc (isW.i5 (by assumption)) | exact isR.gx (by assumption) | exact isRd.gx (by assumption) | exact isSp.gx (by assumption) | exact isI.gx (isR.i (by assumption)) | exact isI.gx (isRd.i (by assumption)) | exact isI.gc (isRd.i (by assumption)) | exact isI.gx (isSp.i (by assumption)) | exact isW.gx (isR.w (by assumption)) | exact isW.gF (isR.w (by assumption)) | exact isK.gx (by assumption) | exact isK.gr (by assumption) | exact isI.gx (isK.row (by assumption) (by omega)) | exact isI.gc (isK.row (by assumption) (by omega)) | fail "no such object") (by rfl) ?_
      refine r_ireturn (pc := 81) .int dX10_of_81 rfl (by first | rfl | assumption) ?_
      refine ⟨?_, rfl⟩
      first | (rw [if_neg (by assumption)]; done) | (rw [if_pos (by assumption)]; (repeat' split) <;> first | rfl | (exfalso; omega))
    by_cases e_16_3 : i = 3
    · rw [e_16_3] at ho_16
      obtain rfl : off_16 = 66 := ho_16.symm.trans (by decide)
      obtain rfl : tgt_16 = 82 := by omega
      refine r_aload_n (pc := 82) dX10_of_82 rfl (by first | rfl | exact isRefV_rf _) ?_
      refine r_getf (pc := 83) dX10_of_83 fX10_261 (by first | assumption | exact isI.gx (by assumption) | exact isI.gc (by assumption) | exact isW.gx (by assumption) | exact isW.gF (by assumption) | exact isW.gT (by assumption) (by omega) | exact isW.gS (by assumption) (by omega) | exact isW.gK (by assumption) (by omega) | exact isW.g1 (by assumption) | exact isW.g2 (by assumption) | exact isW.g3 (by assumption) | exact isI.gx (isW.i0 (by assumption)) | exact isI.gc (isW.i0 (by assumption)) | exact isI.gx (isW.i1 (by assumption)) | exact isI.gc (isW.i1 (by assumption)) | exact isI.gx (isW.i2 (by assumption)) | exact isI.gc (isW.i2 (by assumption)) | exact isI.gx (isW.i3 (by assumption)) | exact isI.gc (isW.i3 (by assumption)) | exact isI.gx (isW.i4 (by assumption)) | exact isI.gc (isW.i4 (by assumption)) | exact isI.gx (isW.i5 (by assumption)) | exact isI.gc (isW.i5 (by assumption)) | exact isR.gx (by assumption) | exact isRd.gx (by assumption) | exact isSp.gx (by assumption) | exact isI.gx (isR.i (by assumption)) | exact isI.gx (isRd.i (by assumption)) | exact isI.gc (isRd.i (by assumption)) | exact isI.gx (isSp.i (by assumption)) | exact isW.gx (isR.w (by assumption)) | exact isW.gF (isR.w (by assumption)) | exact isK.gx (by assumption) | exact isK.gr (by assumption) | exact isI.gx (isK.row (by assumption) (by omega)) | exact isI.gc (isK.row (by assumption) (by omega)) | fail "no such object") (by rfl) ?_
      refine r_ireturn (pc := 86) .int dX10_of_86 rfl (by first | rfl | assumption) ?_
      refine ⟨?_, rfl⟩
      first | (rw [if_neg (by assumption)]; done) | (rw [if_pos (by assumption)]; (repeat' split) <;> first | rfl | (exfalso; omega))
    by_cases e_16_4 : i = 4
    · rw [e_16_4] at ho_16
      obtain rfl : off_16 = 71 := ho_16.symm.trans (by decide)
      obtain rfl : tgt_16 = 87 := by omega
      refine r_aload_n (pc := 87) dX10_of_87 rfl (by first | rfl | exact isRefV_rf _) ?_
      refine r_getf (pc := 88) dX10_of_88 fX10_51 (by first | assumption | exact isI.gx (by assumption) | exact isI.gc (by assumption) | exact isW.gx (by assumption) | exact isW.gF (by assumption) | exact isW.gT (by assumption) (by omega) | exact isW.gS (by assumption) (by omega) | exact isW.gK (by assumption) (by omega) | exact isW.g1 (by assumption) | exact isW.g2 (by assumption) | exact isW.g3 (by assumption) | exact isI.gx (isW.i0 (by assumption)) | exact isI.gc (isW.i0 (by assumption)) | exact isI.gx (isW.i1 (by assumption)) | exact isI.gc (isW.i1 (by assumption)) | exact isI.gx (isW.i2 (by assumption)) | exact isI.gc (isW.i2 (by assumption)) | exact isI.gx (isW.i3 (by assumption)) | exact isI.gc (isW.i3 (by assumption)) | exact isI.gx (isW.i4 (by assumption)) | exact isI.gc (isW.i4 (by assumption)) | exact isI.gx (isW.i5 (by assumption)) | exact isI.gc (isW.i5 (by assumption)) | exact isR.gx (by assumption) | exact isRd.gx (by assumption) | exact isSp.gx (by assumption) | exact isI.gx (isR.i (by assumption)) | exact isI.gx (isRd.i (by assumption)) | exact isI.gc (isRd.i (by assumption)) | exact isI.gx (isSp.i (by assumption)) | exact isW.gx (isR.w (by assumption)) | exact isW.gF (isR.w (by assumption)) | exact isK.gx (by assumption) | exact isK.gr (by assumption) | exact isI.gx (isK.row (by assumption) (by omega)) | exact isI.gc (isK.row (by assumption) (by omega)) | fail "no such object") (by rfl) ?_
      refine r_iload_n (pc := 91) dX10_of_91 rfl ?_
      refine r_callV1 (pc := 92) dX10_of_92 qX9_scopesNotShutOf kX10_264 vX9_scopesNotShutOf (by first | assumption | exact isI.gx (by assumption) | exact isI.gc (by assumption) | exact isW.gx (by assumption) | exact isW.gF (by assumption) | exact isW.gT (by assumption) (by omega) | exact isW.gS (by assumption) (by omega) | exact isW.gK (by assumption) (by omega) | exact isW.g1 (by assumption) | exact isW.g2 (by assumption) | exact isW.g3 (by assumption) | exact isI.gx (isW.i0 (by assumption)) | exact isI.gc (isW.i0 (by assumption)) | exact isI.gx (isW.i1 (by assumption)) | exact isI.gc (isW.i1 (by assumption)) | exact isI.gx (isW.i2 (by assumption)) | exact isI.gc (isW.i2 (by assumption)) | exact isI.gx (isW.i3 (by assumption)) | exact isI.gc (isW.i3 (by assumption)) | exact isI.gx (isW.i4 (by assumption)) | exact isI.gc (isW.i4 (by assumption)) | exact isI.gx (isW.i5 (by assumption)) | exact isI.gc (isW.i5 (by assumption)) | exact isR.gx (by assumption) | exact isRd.gx (by assumption) | exact isSp.gx (by assumption) | exact isI.gx (isR.i (by assumption)) | exact isI.gx (isRd.i (by assumption)) | exact isI.gc (isRd.i (by assumption)) | exact isI.gx (isSp.i (by assumption)) | exact isW.gx (isR.w (by assumption)) | exact isW.gF (isR.w (by assumption)) | exact isK.gx (by assumption) | exact isK.gr (by assumption) | exact isI.gx (isK.row (by assumption) (by omega)) | exact isI.gc (isK.row (by assumption) (by omega)) | fail "no such object") rfl rfl (Nat.le_of_ble_eq_true rfl) (cq_scopesNotShutOf _ hW hc hS1 hcapS ha) (fun v_92 h_92 q_92 => ?_)
      obtain ⟨rfl, rfl⟩ := q_92
      refine r_ireturn (pc := 95) .int dX10_of_95 rfl (by first | rfl | assumption) ?_
      refine ⟨?_, rfl⟩
      first | (rw [if_neg (by assumption)]; done) | (rw [if_pos (by assumption)]; (repeat' split) <;> first | rfl | (exfalso; omega))
    by_cases e_16_5 : i = 5
    · rw [e_16_5] at ho_16
      obtain rfl : off_16 = 80 := ho_16.symm.trans (by decide)
      obtain rfl : tgt_16 = 96 := by omega
      refine r_aload_n (pc := 96) dX10_of_96 rfl (by first | rfl | exact isRefV_rf _) ?_
      refine r_getf (pc := 97) dX10_of_97 fX10_267 (by first | assumption | exact isI.gx (by assumption) | exact isI.gc (by assumption) | exact isW.gx (by assumption) | exact isW.gF (by assumption) | exact isW.gT (by assumption) (by omega) | exact isW.gS (by assumption) (by omega) | exact isW.gK (by assumption) (by omega) | exact isW.g1 (by assumption) | exact isW.g2 (by assumption) | exact isW.g3 (by assumption) | exact isI.gx (isW.i0 (by assumption)) | exact isI.gc (isW.i0 (by assumption)) | exact isI.gx (isW.i1 (by assumption)) | exact isI.gc (isW.i1 (by assumption)) | exact isI.gx (isW.i2 (by assumption)) | exact isI.gc (isW.i2 (by assumption)) | exact isI.gx (isW.i3 (by assumption)) | exact isI.gc (isW.i3 (by assumption)) | exact isI.gx (isW.i4 (by assumption)) | exact isI.gc (isW.i4 (by assumption)) | exact isI.gx (isW.i5 (by assumption)) | exact isI.gc (isW.i5 (by assumption)) | exact isR.gx (by assumption) | exact isRd.gx (by assumption) | exact isSp.gx (by assumption) | exact isI.gx (isR.i (by assumption)) | exact isI.gx (isRd.i (by assumption)) | exact isI.gc (isRd.i (by assumption)) | exact isI.gx (isSp.i (by assumption)) | exact isW.gx (isR.w (by assumption)) | exact isW.gF (isR.w (by assumption)) | exact isK.gx (by assumption) | exact isK.gr (by assumption) | exact isI.gx (isK.row (by assumption) (by omega)) | exact isI.gc (isK.row (by assumption) (by omega)) | fail "no such object") (by rfl) ?_
      refine r_ireturn (pc := 100) .int dX10_of_100 rfl (by first | rfl | assumption) ?_
      refine ⟨?_, rfl⟩
      first | (rw [if_neg (by assumption)]; done) | (rw [if_pos (by assumption)]; (repeat' split) <;> first | rfl | (exfalso; omega))
    by_cases e_16_6 : i = 6
    · rw [e_16_6] at ho_16
      obtain rfl : off_16 = 85 := ho_16.symm.trans (by decide)
      obtain rfl : tgt_16 = 101 := by omega
      refine r_aload_n (pc := 101) dX10_of_101 rfl (by first | rfl | exact isRefV_rf _) ?_
      refine r_getf (pc := 102) dX10_of_102 fX10_254 (by first | assumption | exact isI.gx (by assumption) | exact isI.gc (by assumption) | exact isW.gx (by assumption) | exact isW.gF (by assumption) | exact isW.gT (by assumption) (by omega) | exact isW.gS (by assumption) (by omega) | exact isW.gK (by assumption) (by omega) | exact isW.g1 (by assumption) | exact isW.g2 (by assumption) | exact isW.g3 (by assumption) | exact isI.gx (isW.i0 (by assumption)) | exact isI.gc (isW.i0 (by assumption)) | exact isI.gx (isW.i1 (by assumption)) | exact isI.gc (isW.i1 (by assumption)) | exact isI.gx (isW.i2 (by assumption)) | exact isI.gc (isW.i2 (by assumption)) | exact isI.gx (isW.i3 (by assumption)) | exact isI.gc (isW.i3 (by assumption)) | exact isI.gx (isW.i4 (by assumption)) | exact isI.gc (isW.i4 (by assumption)) | exact isI.gx (isW.i5 (by assumption)) | exact isI.gc (isW.i5 (by assumption)) | exact isR.gx (by assumption) | exact isRd.gx (by assumption) | exact isSp.gx (by assumption) | exact isI.gx (isR.i (by assumption)) | exact isI.gx (isRd.i (by assumption)) | exact isI.gc (isRd.i (by assumption)) | exact isI.gx (isSp.i (by assumption)) | exact isW.gx (isR.w (by assumption)) | exact isW.gF (isR.w (by assumption)) | exact isK.gx (by assumption) | exact isK.gr (by assumption) | exact isI.gx (isK.row (by assumption) (by omega)) | exact isI.gc (isK.row (by assumption) (by omega)) | fail "no such object") (by rfl) ?_
      refine rj_if_eq (pc := 105) (tgt := 112) dX10_of_105 (by decide) (by first | exact b01_r | exact bz_r | omega | (constructor <;> omega) | apply_assumption | (apply atF_r; assumption) | fail "no range") (fun c_105 => ?_) (fun c_105 => ?_)
      · try simp only [b01_0, bz_0, Classical.not_not] at c_105
        refine rj_iconst (pc := 112) dX10_of_112 ?_
        refine r_ireturn (pc := 113) .int dX10_of_113 rfl (by first | rfl | assumption) ?_
        refine ⟨?_, rfl⟩
        first | (rw [if_neg (by assumption)]; done) | (rw [if_pos (by assumption)]; (repeat' split) <;> first | rfl | (exfalso; omega))
      · try simp only [b01_0, bz_0, Classical.not_not] at c_105
        refine rj_iconst (pc := 108) dX10_of_108 ?_
        refine r_goto (pc := 109) (tgt := 113) dX10_of_109 (by decide) ?_
        refine r_ireturn (pc := 113) .int dX10_of_113 rfl (by first | rfl | assumption) ?_
        refine ⟨?_, rfl⟩
        first | (rw [if_neg (by assumption)]; done) | (rw [if_pos (by assumption)]; (repeat' split) <;> first | rfl | (exfalso; omega))
    by_cases e_16_7 : i = 7
    · rw [e_16_7] at ho_16
      obtain rfl : off_16 = 98 := ho_16.symm.trans (by decide)
      obtain rfl : tgt_16 = 114 := by omega
      refine r_aload_n (pc := 114) dX10_of_114 rfl (by first | rfl | exact isRefV_rf _) ?_
      refine r_getf (pc := 115) dX10_of_115 fX10_83 (by first | assumption | exact isI.gx (by assumption) | exact isI.gc (by assumption) | exact isW.gx (by assumption) | exact isW.gF (by assumption) | exact isW.gT (by assumption) (by omega) | exact isW.gS (by assumption) (by omega) | exact isW.gK (by assumption) (by omega) | exact isW.g1 (by assumption) | exact isW.g2 (by assumption) | exact isW.g3 (by assumption) | exact isI.gx (isW.i0 (by assumption)) | exact isI.gc (isW.i0 (by assumption)) | exact isI.gx (isW.i1 (by assumption)) | exact isI.gc (isW.i1 (by assumption)) | exact isI.gx (isW.i2 (by assumption)) | exact isI.gc (isW.i2 (by assumption)) | exact isI.gx (isW.i3 (by assumption)) | exact isI.gc (isW.i3 (by assumption)) | exact isI.gx (isW.i4 (by assumption)) | exact isI.gc (isW.i4 (by assumption)) | exact isI.gx (isW.i5 (by assumption)) | exact isI.gc (isW.i5 (by assumption)) | exact isR.gx (by assumption) | exact isRd.gx (by assumption) | exact isSp.gx (by assumption) | exact isI.gx (isR.i (by assumption)) | exact isI.gx (isRd.i (by assumption)) | exact isI.gc (isRd.i (by assumption)) | exact isI.gx (isSp.i (by assumption)) | exact isW.gx (isR.w (by assumption)) | exact isW.gF (isR.w (by assumption)) | exact isK.gx (by assumption) | exact isK.gr (by assumption) | exact isI.gx (isK.row (by assumption) (by omega)) | exact isI.gc (isK.row (by assumption) (by omega)) | fail "no such object") (by rfl) ?_
      refine r_callS1 (pc := 118) dX10_of_118 qX10_stepsFrom kX10_183 sX10_stepsFrom (Nat.le_of_ble_eq_true rfl) (kg_stepsFrom _ (hr e_5) hm) (fun v_118 h_118 q_118 => ?_)
      obtain ⟨rfl, rfl⟩ := q_118
      refine r_ireturn (pc := 121) .int dX10_of_121 rfl (by first | rfl | assumption) ?_
      refine ⟨?_, rfl⟩
      first | (rw [if_neg (by assumption)]; done) | (rw [if_pos (by assumption)]; (repeat' split) <;> first | rfl | (exfalso; omega))
    have eo_16 : off_16 = 106 := by
      rw [← ho_16]
      unfold tswOff
      rw [if_pos (by omega)]
    obtain rfl : tgt_16 = 122 := by omega
    refine rj_iconst (pc := 122) dX10_of_122 ?_
    refine r_ireturn (pc := 123) .int dX10_of_123 rfl (by first | rfl | assumption) ?_
    refine ⟨?_, rfl⟩
    first | (rw [if_neg (by assumption)]; done) | (rw [if_pos (by assumption)]; (repeat' split) <;> first | rfl | (exfalso; omega))
  · obtain rfl := tkAt_N e_5 q1_5
    refine r_astore_n (pc := 8) dX10_of_8 (Nat.le_of_ble_eq_true rfl) (by first | rfl | exact isRefV_rf _) ?_
    dsimp only [lsSt, List.set, mLs, mEnt]
    refine r_aload_n (pc := 9) dX10_of_9 rfl (by first | rfl | exact isRefV_rf _) ?_
    refine r_ifnonnull (pc := 10) (tgt := 15) dX10_of_10 (by decide) (by first | rfl | exact isRefV_rf _) (fun a_10 c_10 => by cases c_10) (fun c_10 => ?_)
    refine rj_iconst (pc := 13) dX10_of_13 ?_
    refine r_ireturn (pc := 14) .int dX10_of_14 rfl (by first | rfl | assumption) ?_
    refine ⟨?_, rfl⟩
    first | (rw [if_neg (by assumption)]; done) | (rw [if_pos (by assumption)]; (repeat' split) <;> first | rfl | (exfalso; omega))
end mg_f2

section mg_d8
set_option maxHeartbeats 4000000 in
set_option maxRecDepth 100000 in
theorem kg_get {G : mG} {l : Launch} (d : Nat) {h : mH} {x : Nat} {kp tk : Option Nat} {zr : Nat → Int} {fr : Nat → Nat → Int} {p e o zt : Int} {ft : Nat → Int} {zs : Int} {fs : Nat → Int} {b za : Int} {fa : Nat → Int} {c : Nat → Int} {C : Nat → Nat → Int} {nm : Nat → Int64} {g : Nat → Option Nat} (hK : isK h x kp tk zr fr p e o zt ft zs fs b za fa c C nm g) (hc : ∀ q, InR (c q)) (hC : ∀ k q, InR (C k q)) (hzr : ∀ q, InR (zr q)) (hfr : ∀ k q, InR (fr k q)) {a : Int} (ha : InR a) {i : Int} (hi : InR i) : RUNM G l (d + 9) mX10_get [.ref x, .int (J a), .int (J i)] h (fun v h' => v = some (.long (if (0 ≤ a ∧ a < 4) ∧ inI 40 (zr a.toNat) i then (J (fr a.toNat i.toNat)).toInt64 else -9223372036854775808)) ∧ h' = h) := by
  refine RUNM.of (by decide +kernel) (Nat.le_of_ble_eq_true rfl) ?_
  have hD := hK.d
  have hS := hK.s
  have hR := hK.r
  have hW := hK.w
  refine r_aload_n (pc := 0) dX10_get_0 rfl (by first | rfl | exact isRefV_rf _) ?_
  refine r_iload_n (pc := 1) dX10_get_1 rfl ?_
  refine r_callV1 (pc := 2) dX10_get_2 qX10_rowAt kX10_286 vX10_rowAt (by first | assumption | exact isI.gx (by assumption) | exact isI.gc (by assumption) | exact isW.gx (by assumption) | exact isW.gF (by assumption) | exact isW.gT (by assumption) (by omega) | exact isW.gS (by assumption) (by omega) | exact isW.gK (by assumption) (by omega) | exact isW.g1 (by assumption) | exact isW.g2 (by assumption) | exact isW.g3 (by assumption) | exact isI.gx (isW.i0 (by assumption)) | exact isI.gc (isW.i0 (by assumption)) | exact isI.gx (isW.i1 (by assumption)) | exact isI.gc (isW.i1 (by assumption)) | exact isI.gx (isW.i2 (by assumption)) | exact isI.gc (isW.i2 (by assumption)) | exact isI.gx (isW.i3 (by assumption)) | exact isI.gc (isW.i3 (by assumption)) | exact isI.gx (isW.i4 (by assumption)) | exact isI.gc (isW.i4 (by assumption)) | exact isI.gx (isW.i5 (by assumption)) | exact isI.gc (isW.i5 (by assumption)) | exact isR.gx (by assumption) | exact isRd.gx (by assumption) | exact isSp.gx (by assumption) | exact isI.gx (isR.i (by assumption)) | exact isI.gx (isRd.i (by assumption)) | exact isI.gc (isRd.i (by assumption)) | exact isI.gx (isSp.i (by assumption)) | exact isW.gx (isR.w (by assumption)) | exact isW.gF (isR.w (by assumption)) | exact isK.gx (by assumption) | exact isK.gr (by assumption) | exact isI.gx (isK.row (by assumption) (by omega)) | exact isI.gc (isK.row (by assumption) (by omega)) | fail "no such object") rfl rfl (Nat.le_of_ble_eq_true rfl) (kg_rowAt _ hK hc hC ha) (fun v_2 h_2 q_2 => ?_)
  obtain ⟨q1_2, rfl⟩ := q_2
  by_cases e_2 : 0 ≤ a ∧ a < 4
  · obtain rfl := rwAt_P e_2 q1_2
    have I_a := hK.row (q := a.toNat) (by omega)
    refine r_astore_n (pc := 5) dX10_get_5 (Nat.le_of_ble_eq_true rfl) (by first | rfl | exact isRefV_rf _) ?_
    dsimp only [lsSt, List.set, mLs, mEnt]
    refine r_aload_n (pc := 6) dX10_get_6 rfl (by first | rfl | exact isRefV_rf _) ?_
    refine r_ifnull (pc := 7) (tgt := 18) dX10_get_7 (by decide) (by first | rfl | exact isRefV_rf _) (fun c_7 => by cases c_7) (fun a_7 c_7 => ?_)
    refine r_aload_n (pc := 10) dX10_get_10 rfl (by first | rfl | exact isRefV_rf _) ?_
    refine r_iload_n (pc := 11) dX10_get_11 rfl ?_
    refine r_callV1 (pc := 12) dX10_get_12 qX1_has kX10_88 vX1_has (by first | assumption | exact isI.gx (by assumption) | exact isI.gc (by assumption) | exact isW.gx (by assumption) | exact isW.gF (by assumption) | exact isW.gT (by assumption) (by omega) | exact isW.gS (by assumption) (by omega) | exact isW.gK (by assumption) (by omega) | exact isW.g1 (by assumption) | exact isW.g2 (by assumption) | exact isW.g3 (by assumption) | exact isI.gx (isW.i0 (by assumption)) | exact isI.gc (isW.i0 (by assumption)) | exact isI.gx (isW.i1 (by assumption)) | exact isI.gc (isW.i1 (by assumption)) | exact isI.gx (isW.i2 (by assumption)) | exact isI.gc (isW.i2 (by assumption)) | exact isI.gx (isW.i3 (by assumption)) | exact isI.gc (isW.i3 (by assumption)) | exact isI.gx (isW.i4 (by assumption)) | exact isI.gc (isW.i4 (by assumption)) | exact isI.gx (isW.i5 (by assumption)) | exact isI.gc (isW.i5 (by assumption)) | exact isR.gx (by assumption) | exact isRd.gx (by assumption) | exact isSp.gx (by assumption) | exact isI.gx (isR.i (by assumption)) | exact isI.gx (isRd.i (by assumption)) | exact isI.gc (isRd.i (by assumption)) | exact isI.gx (isSp.i (by assumption)) | exact isW.gx (isR.w (by assumption)) | exact isW.gF (isR.w (by assumption)) | exact isK.gx (by assumption) | exact isK.gr (by assumption) | exact isI.gx (isK.row (by assumption) (by omega)) | exact isI.gc (isK.row (by assumption) (by omega)) | fail "no such object") rfl rfl (Nat.le_of_ble_eq_true rfl) (ci_has _ I_a (by decide) (hzr _) hi) (fun v_12 h_12 q_12 => ?_)
    obtain ⟨rfl, rfl⟩ := q_12
    refine rj_if_ne (pc := 15) (tgt := 24) dX10_get_15 (by decide) (by first | exact b01_r | exact bz_r | omega | (constructor <;> omega) | apply_assumption | (apply atF_r; assumption) | fail "no range") (fun c_15 => ?_) (fun c_15 => ?_)
    · try simp only [b01_0, bz_0, Classical.not_not] at c_15
      refine r_aload_n (pc := 24) dX10_get_24 rfl (by first | rfl | exact isRefV_rf _) ?_
      refine r_iload_n (pc := 25) dX10_get_25 rfl ?_
      refine r_callV1 (pc := 26) dX10_get_26 qX1_at kX10_91 vX1_at (by first | assumption | exact isI.gx (by assumption) | exact isI.gc (by assumption) | exact isW.gx (by assumption) | exact isW.gF (by assumption) | exact isW.gT (by assumption) (by omega) | exact isW.gS (by assumption) (by omega) | exact isW.gK (by assumption) (by omega) | exact isW.g1 (by assumption) | exact isW.g2 (by assumption) | exact isW.g3 (by assumption) | exact isI.gx (isW.i0 (by assumption)) | exact isI.gc (isW.i0 (by assumption)) | exact isI.gx (isW.i1 (by assumption)) | exact isI.gc (isW.i1 (by assumption)) | exact isI.gx (isW.i2 (by assumption)) | exact isI.gc (isW.i2 (by assumption)) | exact isI.gx (isW.i3 (by assumption)) | exact isI.gc (isW.i3 (by assumption)) | exact isI.gx (isW.i4 (by assumption)) | exact isI.gc (isW.i4 (by assumption)) | exact isI.gx (isW.i5 (by assumption)) | exact isI.gc (isW.i5 (by assumption)) | exact isR.gx (by assumption) | exact isRd.gx (by assumption) | exact isSp.gx (by assumption) | exact isI.gx (isR.i (by assumption)) | exact isI.gx (isRd.i (by assumption)) | exact isI.gc (isRd.i (by assumption)) | exact isI.gx (isSp.i (by assumption)) | exact isW.gx (isR.w (by assumption)) | exact isW.gF (isR.w (by assumption)) | exact isK.gx (by assumption) | exact isK.gr (by assumption) | exact isI.gx (isK.row (by assumption) (by omega)) | exact isI.gc (isK.row (by assumption) (by omega)) | fail "no such object") rfl rfl (Nat.le_of_ble_eq_true rfl) (ci_at _ I_a (by decide) (hzr _) hi) (fun v_26 h_26 q_26 => ?_)
      obtain ⟨rfl, rfl⟩ := q_26
      refine r_i2l (pc := 29) dX10_get_29 ?_
      refine r_lreturn (pc := 30) dX10_get_30 rfl ?_
      refine ⟨?_, rfl⟩
      first | (rw [if_neg (fun z => absurd z.1 (by assumption))]; done) | (rw [if_neg (fun z => absurd z.2 (by assumption))]; done) | (rw [if_pos ⟨by assumption, by assumption⟩]; unfold atF; rw [if_pos (by assumption)]; done)
    · try simp only [b01_0, bz_0, Classical.not_not] at c_15
      refine r_ldc2 (pc := 18) dX10_get_18 oX10_153 ?_
      refine r_goto (pc := 21) (tgt := 30) dX10_get_21 (by decide) ?_
      refine r_lreturn (pc := 30) dX10_get_30 rfl ?_
      refine ⟨?_, rfl⟩
      first | (rw [if_neg (fun z => absurd z.1 (by assumption))]; done) | (rw [if_neg (fun z => absurd z.2 (by assumption))]; done) | (rw [if_pos ⟨by assumption, by assumption⟩]; unfold atF; rw [if_pos (by assumption)]; done)
  · obtain rfl := rwAt_N e_2 q1_2
    refine r_astore_n (pc := 5) dX10_get_5 (Nat.le_of_ble_eq_true rfl) (by first | rfl | exact isRefV_rf _) ?_
    dsimp only [lsSt, List.set, mLs, mEnt]
    refine r_aload_n (pc := 6) dX10_get_6 rfl (by first | rfl | exact isRefV_rf _) ?_
    refine r_ifnull (pc := 7) (tgt := 18) dX10_get_7 (by decide) (by first | rfl | exact isRefV_rf _) (fun c_7 => ?_) (fun a_7 c_7 => by cases c_7)
    refine r_ldc2 (pc := 18) dX10_get_18 oX10_153 ?_
    refine r_goto (pc := 21) (tgt := 30) dX10_get_21 (by decide) ?_
    refine r_lreturn (pc := 30) dX10_get_30 rfl ?_
    refine ⟨?_, rfl⟩
    first | (rw [if_neg (fun z => absurd z.1 (by assumption))]; done) | (rw [if_neg (fun z => absurd z.2 (by assumption))]; done) | (rw [if_pos ⟨by assumption, by assumption⟩]; unfold atF; rw [if_pos (by assumption)]; done)
end mg_d8

section mg_f1
set_option maxHeartbeats 4000000 in
set_option maxRecDepth 100000 in
theorem kg_lay {G : mG} {l : Launch} (d : Nat) {h : mH} {x : Nat} {kp tk : Option Nat} {zr : Nat → Int} {fr : Nat → Nat → Int} {p e o zt : Int} {ft : Nat → Int} {zs : Int} {fs : Nat → Int} {b za : Int} {fa : Nat → Int} {c : Nat → Int} {C : Nat → Nat → Int} {nm : Nat → Int64} {g : Nat → Option Nat} (hK : isK h x kp tk zr fr p e o zt ft zs fs b za fa c C nm g) (hc : ∀ q, InR (c q)) (hC : ∀ k q, InR (C k q)) {a : Int} (ha : InR a) {i : Int} (hi : InR i) (hzr : ∀ q, InR (zr q) ∧ zr q ≤ 40) (hz0 : 0 ≤ a ∧ a < 4 → ¬ zr a.toNat = -11 → 0 ≤ zr a.toNat) {L : Nat} (h9 : c 9 = (L : Int)) (hL : L ≤ 90) : RUNM G l (d + 9) mX10_lay [.ref x, .int (J a), .int (J i)] h (fun v h' => (¬ (0 ≤ a ∧ a < 4) ∧ v = some (.int (J (-1))) ∧ h' = h) ∨ ((0 ≤ a ∧ a < 4) ∧ zr a.toNat = -11 ∧ v = some (.int (J (-11))) ∧ h' = h) ∨ ((0 ≤ a ∧ a < 4) ∧ ¬ zr a.toNat = -11 ∧ (v = some (.int (J (if layN (L : Int) (zr a.toNat) i < L then -13 else (layN (L : Int) (zr a.toNat) i : Int)))) ∧ isK h' x kp tk zr (updC fr a.toNat (lyF (fr a.toNat) (C 1) i.toNat (layN (L : Int) (zr a.toNat) i))) p e o zt ft zs fs b za fa c C nm g ∧ Same (kBlk x) h h'))) := by
  refine RUNM.of (by decide +kernel) (Nat.le_of_ble_eq_true rfl) ?_
  have hD := hK.d
  have hS := hK.s
  have hR := hK.r
  have hW := hK.w
  refine r_aload_n (pc := 0) dX10_lay_0 rfl (by first | rfl | exact isRefV_rf _) ?_
  refine r_iload_n (pc := 1) dX10_lay_1 rfl ?_
  refine r_callV1 (pc := 2) dX10_lay_2 qX10_rowAt kX10_286 vX10_rowAt (by first | assumption | exact isI.gx (by assumption) | exact isI.gc (by assumption) | exact isW.gx (by assumption) | exact isW.gF (by assumption) | exact isW.gT (by assumption) (by omega) | exact isW.gS (by assumption) (by omega) | exact isW.gK (by assumption) (by omega) | exact isW.g1 (by assumption) | exact isW.g2 (by assumption) | exact isW.g3 (by assumption) | exact isI.gx (isW.i0 (by assumption)) | exact isI.gc (isW.i0 (by assumption)) | exact isI.gx (isW.i1 (by assumption)) | exact isI.gc (isW.i1 (by assumption)) | exact isI.gx (isW.i2 (by assumption)) | exact isI.gc (isW.i2 (by assumption)) | exact isI.gx (isW.i3 (by assumption)) | exact isI.gc (isW.i3 (by assumption)) | exact isI.gx (isW.i4 (by assumption)) | exact isI.gc (isW.i4 (by assumption)) | exact isI.gx (isW.i5 (by assumption)) | exact isI.gc (isW.i5 (by assumption)) | exact isR.gx (by assumption) | exact isRd.gx (by assumption) | exact isSp.gx (by assumption) | exact isI.gx (isR.i (by assumption)) | exact isI.gx (isRd.i (by assumption)) | exact isI.gc (isRd.i (by assumption)) | exact isI.gx (isSp.i (by assumption)) | exact isW.gx (isR.w (by assumption)) | exact isW.gF (isR.w (by assumption)) | exact isK.gx (by assumption) | exact isK.gr (by assumption) | exact isI.gx (isK.row (by assumption) (by omega)) | exact isI.gc (isK.row (by assumption) (by omega)) | fail "no such object") rfl rfl (Nat.le_of_ble_eq_true rfl) (kg_rowAt _ hK hc hC ha) (fun v_2 h_2 q_2 => ?_)
  obtain ⟨q1_2, rfl⟩ := q_2
  by_cases e_2 : 0 ≤ a ∧ a < 4
  · obtain rfl := rwAt_P e_2 q1_2
    have I_a := hK.row (q := a.toNat) (by omega)
    refine r_astore_n (pc := 5) dX10_lay_5 (Nat.le_of_ble_eq_true rfl) (by first | rfl | exact isRefV_rf _) ?_
    dsimp only [lsSt, List.set, mLs, mEnt]
    refine r_aload_n (pc := 6) dX10_lay_6 rfl (by first | rfl | exact isRefV_rf _) ?_
    refine r_ifnonnull (pc := 7) (tgt := 12) dX10_lay_7 (by decide) (by first | rfl | exact isRefV_rf _) (fun a_7 c_7 => ?_) (fun c_7 => by cases c_7)
    refine r_aload_n (pc := 12) dX10_lay_12 rfl (by first | rfl | exact isRefV_rf _) ?_
    refine r_getf (pc := 13) dX10_lay_13 fX10_55 (by first | assumption | exact isI.gx (by assumption) | exact isI.gc (by assumption) | exact isW.gx (by assumption) | exact isW.gF (by assumption) | exact isW.gT (by assumption) (by omega) | exact isW.gS (by assumption) (by omega) | exact isW.gK (by assumption) (by omega) | exact isW.g1 (by assumption) | exact isW.g2 (by assumption) | exact isW.g3 (by assumption) | exact isI.gx (isW.i0 (by assumption)) | exact isI.gc (isW.i0 (by assumption)) | exact isI.gx (isW.i1 (by assumption)) | exact isI.gc (isW.i1 (by assumption)) | exact isI.gx (isW.i2 (by assumption)) | exact isI.gc (isW.i2 (by assumption)) | exact isI.gx (isW.i3 (by assumption)) | exact isI.gc (isW.i3 (by assumption)) | exact isI.gx (isW.i4 (by assumption)) | exact isI.gc (isW.i4 (by assumption)) | exact isI.gx (isW.i5 (by assumption)) | exact isI.gc (isW.i5 (by assumption)) | exact isR.gx (by assumption) | exact isRd.gx (by assumption) | exact isSp.gx (by assumption) | exact isI.gx (isR.i (by assumption)) | exact isI.gx (isRd.i (by assumption)) | exact isI.gc (isRd.i (by assumption)) | exact isI.gx (isSp.i (by assumption)) | exact isW.gx (isR.w (by assumption)) | exact isW.gF (isR.w (by assumption)) | exact isK.gx (by assumption) | exact isK.gr (by assumption) | exact isI.gx (isK.row (by assumption) (by omega)) | exact isI.gc (isK.row (by assumption) (by omega)) | fail "no such object") (by rfl) ?_
    have rz := (hzr a.toNat).1
    refine rj_bipush (pc := 16) dX10_lay_16 (by decide +kernel) ?_
    refine rj_icmp_ne (pc := 18) (tgt := 24) dX10_lay_18 (by decide) (by first | exact b01_r | exact bz_r | omega | (constructor <;> omega) | apply_assumption | (apply atF_r; assumption) | fail "no range") (by first | exact b01_r | exact bz_r | omega | (constructor <;> omega) | apply_assumption | (apply atF_r; assumption) | fail "no range") (fun c_18 => ?_) (fun c_18 => ?_)
    · refine rj_iconst (pc := 24) dX10_lay_24 ?_
      refine r_istore (pc := 25) dX10_lay_25 (Nat.le_of_ble_eq_true rfl) ?_
      dsimp only [lsSt, List.set, mLs, mEnt]
      refine (L_kLay d hc hC e_2 hi ⟨(hzr _).1, hz0 e_2 (by assumption), (hzr _).2⟩ h9 hL L 0 _ (by omega) (Or.inl rfl) (by rw [lyF_0, updC_id]; exact hK)).mono (fun v h' q => ?_)
      exact Or.inr (Or.inr ⟨e_2, by assumption, q⟩)
    · refine rj_bipush (pc := 21) dX10_lay_21 (by decide +kernel) ?_
      refine r_ireturn (pc := 23) .int dX10_lay_23 rfl (by first | rfl | assumption) ?_
      first
      | exact Or.inl ⟨by assumption, rfl, rfl⟩
      | exact Or.inr (Or.inl ⟨by assumption, by assumption, rfl, rfl⟩)
      | fail "leaf"
  · obtain rfl := rwAt_N e_2 q1_2
    refine r_astore_n (pc := 5) dX10_lay_5 (Nat.le_of_ble_eq_true rfl) (by first | rfl | exact isRefV_rf _) ?_
    dsimp only [lsSt, List.set, mLs, mEnt]
    refine r_aload_n (pc := 6) dX10_lay_6 rfl (by first | rfl | exact isRefV_rf _) ?_
    refine r_ifnonnull (pc := 7) (tgt := 12) dX10_lay_7 (by decide) (by first | rfl | exact isRefV_rf _) (fun a_7 c_7 => by cases c_7) (fun c_7 => ?_)
    refine rj_iconst (pc := 10) dX10_lay_10 ?_
    refine r_ireturn (pc := 11) .int dX10_lay_11 rfl (by first | rfl | assumption) ?_
    first
    | exact Or.inl ⟨by assumption, rfl, rfl⟩
    | exact Or.inr (Or.inl ⟨by assumption, by assumption, rfl, rfl⟩)
    | fail "leaf"
end mg_f1

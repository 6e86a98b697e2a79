section mg_d8
set_option maxHeartbeats 4000000 in
set_option maxRecDepth 100000 in
theorem kg_set {G : mG} {l : Launch} (d : Nat) {h : mH} {x : Nat} {kp tk : Option Nat} {zr : Nat → Int} {fr : Nat → Nat → Int} {p e o zt : Int} {ft : Nat → Int} {zs : Int} {fs : Nat → Int} {b za : Int} {fa : Nat → Int} {c : Nat → Int} {C : Nat → Nat → Int} {nm : Nat → Int64} {g : Nat → Option Nat} (hK : isK h x kp tk zr fr p e o zt ft zs fs b za fa c C nm g) (hc : ∀ q, InR (c q)) (hC : ∀ k q, InR (C k q)) {a : Int} (ha : InR a) {i : Int} (hi : InR i) {u : Int} (hu : InR u) (hzr : ∀ q, InR (zr q)) (hfr : ∀ k q, InR (fr k q)) : RUNM G l (d + 9) mX10_set [.ref x, .int (J a), .int (J i), .int (J u)] h (fun v h' => (¬ (0 ≤ a ∧ a < 4) ∧ v = some (.int (J (-1))) ∧ h' = h) ∨ ((0 ≤ a ∧ a < 4) ∧ zr a.toNat = -11 ∧ v = some (.int (J (-11))) ∧ h' = h) ∨ (((0 ≤ a ∧ a < 4) ∧ ¬ zr a.toNat = -11) ∧ ¬ inI 40 (zr a.toNat) i ∧ v = some (.int (J (-13))) ∧ h' = h) ∨ (((0 ≤ a ∧ a < 4) ∧ ¬ zr a.toNat = -11) ∧ inI 40 (zr a.toNat) i ∧ v = some (.int (J 1)) ∧ isK h' x kp tk (updI zr a.toNat (zr a.toNat)) (updC fr a.toNat (putF 40 (zr a.toNat) (fr a.toNat) i u)) p e o zt ft zs fs b za fa c C nm g ∧ Same (kBlk x) h h')) := by
  refine RUNM.of (by decide +kernel) (Nat.le_of_ble_eq_true rfl) ?_
  have hD := hK.d
  have hS := hK.s
  have hR := hK.r
  have hW := hK.w
  refine r_aload_n (pc := 0) dX10_set_0 rfl (by first | rfl | exact isRefV_rf _) ?_
  refine r_iload_n (pc := 1) dX10_set_1 rfl ?_
  refine r_callV1 (pc := 2) dX10_set_2 qX10_rowAt kX10_286 vX10_rowAt (by first | assumption | exact isI.gx (by assumption) | exact isI.gc (by assumption) | exact isW.gx (by assumption) | exact isW.gF (by assumption) | exact isW.gT (by assumption) (by omega) | exact isW.gS (by assumption) (by omega) | exact isW.gK (by assumption) (by omega) | exact isW.g1 (by assumption) | exact isW.g2 (by assumption) | exact isW.g3 (by assumption) | exact isI.gx (isW.i0 (by assumption)) | exact isI.gc (isW.i0 (by assumption)) | exact isI.gx (isW.i1 (by assumption)) | exact isI.gc (isW.i1 (by assumption)) | exact isI.gx (isW.i2 (by assumption)) | exact isI.gc (isW.i2 (by assumption)) | exact isI.gx (isW.i3 (by assumption)) | exact isI.gc (isW.i3 (by assumption)) | exact isI.gx (isW.i4 (by assumption)) | exact isI.gc (isW.i4 (by assumption)) | exact isI.gx (isW.i5 (by assumption)) | exact isI.gc (isW.i5 (by assumption)) | exact isR.gx (by assumption) | exact isRd.gx (by assumption) | exact isSp.gx (by assumption) | exact isI.gx (isR.i (by assumption)) | exact isI.gx (isRd.i (by assumption)) | exact isI.gc (isRd.i (by assumption)) | exact isI.gx (isSp.i (by assumption)) | exact isW.gx (isR.w (by assumption)) | exact isW.gF (isR.w (by assumption)) | exact isK.gx (by assumption) | exact isK.gr (by assumption) | exact isI.gx (isK.row (by assumption) (by omega)) | exact isI.gc (isK.row (by assumption) (by omega)) | fail "no such object") rfl rfl (Nat.le_of_ble_eq_true rfl) (kg_rowAt _ hK hc hC ha) (fun v_2 h_2 q_2 => ?_)
  obtain ⟨q1_2, rfl⟩ := q_2
  by_cases e_2 : 0 ≤ a ∧ a < 4
  · obtain rfl := rwAt_P e_2 q1_2
    have I_a := hK.row (q := a.toNat) (by omega)
    refine r_astore (pc := 5) dX10_set_5 (Nat.le_of_ble_eq_true rfl) (by first | rfl | exact isRefV_rf _) ?_
    dsimp only [lsSt, List.set, mLs, mEnt]
    refine r_aload (pc := 7) dX10_set_7 rfl (by first | rfl | exact isRefV_rf _) ?_
    refine r_ifnonnull (pc := 9) (tgt := 14) dX10_set_9 (by decide) (by first | rfl | exact isRefV_rf _) (fun a_9 c_9 => ?_) (fun c_9 => by cases c_9)
    refine r_aload (pc := 14) dX10_set_14 rfl (by first | rfl | exact isRefV_rf _) ?_
    have rz := hzr a.toNat
    refine r_getf (pc := 16) dX10_set_16 fX10_55 (by first | assumption | exact isI.gx (by assumption) | exact isI.gc (by assumption) | exact isW.gx (by assumption) | exact isW.gF (by assumption) | exact isW.gT (by assumption) (by omega) | exact isW.gS (by assumption) (by omega) | exact isW.gK (by assumption) (by omega) | exact isW.g1 (by assumption) | exact isW.g2 (by assumption) | exact isW.g3 (by assumption) | exact isI.gx (isW.i0 (by assumption)) | exact isI.gc (isW.i0 (by assumption)) | exact isI.gx (isW.i1 (by assumption)) | exact isI.gc (isW.i1 (by assumption)) | exact isI.gx (isW.i2 (by assumption)) | exact isI.gc (isW.i2 (by assumption)) | exact isI.gx (isW.i3 (by assumption)) | exact isI.gc (isW.i3 (by assumption)) | exact isI.gx (isW.i4 (by assumption)) | exact isI.gc (isW.i4 (by assumption)) | exact isI.gx (isW.i5 (by assumption)) | exact isI.gc (isW.i5 (by assumption)) | exact isR.gx (by assumption) | exact isRd.gx (by assumption) | exact isSp.gx (by assumption) | exact isI.gx (isR.i (by assumption)) | exact isI.gx (isRd.i (by assumption)) | exact isI.gc (isRd.i (by assumption)) | exact isI.gx (isSp.i (by assumption)) | exact isW.gx (isR.w (by assumption)) | exact isW.gF (isR.w (by assumption)) | exact isK.gx (by assumption) | exact isK.gr (by assumption) | exact isI.gx (isK.row (by assumption) (by omega)) | exact isI.gc (isK.row (by assumption) (by omega)) | fail "no such object") (by rfl) ?_
    refine rj_bipush (pc := 19) dX10_set_19 (by decide +kernel) ?_
    refine rj_icmp_ne (pc := 21) (tgt := 27) dX10_set_21 (by decide) (by first | exact b01_r | exact bz_r | omega | (constructor <;> omega) | apply_assumption | (apply atF_r; assumption) | fail "no range") (by first | exact b01_r | exact bz_r | omega | (constructor <;> omega) | apply_assumption | (apply atF_r; assumption) | fail "no range") (fun c_21 => ?_) (fun c_21 => ?_)
    · refine r_aload (pc := 27) dX10_set_27 rfl (by first | rfl | exact isRefV_rf _) ?_
      refine r_iload_n (pc := 29) dX10_set_29 rfl ?_
      refine r_callV1 (pc := 30) dX10_set_30 qX1_has kX10_88 vX1_has (by first | assumption | exact isI.gx (by assumption) | exact isI.gc (by assumption) | exact isW.gx (by assumption) | exact isW.gF (by assumption) | exact isW.gT (by assumption) (by omega) | exact isW.gS (by assumption) (by omega) | exact isW.gK (by assumption) (by omega) | exact isW.g1 (by assumption) | exact isW.g2 (by assumption) | exact isW.g3 (by assumption) | exact isI.gx (isW.i0 (by assumption)) | exact isI.gc (isW.i0 (by assumption)) | exact isI.gx (isW.i1 (by assumption)) | exact isI.gc (isW.i1 (by assumption)) | exact isI.gx (isW.i2 (by assumption)) | exact isI.gc (isW.i2 (by assumption)) | exact isI.gx (isW.i3 (by assumption)) | exact isI.gc (isW.i3 (by assumption)) | exact isI.gx (isW.i4 (by assumption)) | exact isI.gc (isW.i4 (by assumption)) | exact isI.gx (isW.i5 (by assumption)) | exact isI.gc (isW.i5 (by assumption)) | exact isR.gx (by assumption) | exact isRd.gx (by assumption) | exact isSp.gx (by assumption) | exact isI.gx (isR.i (by assumption)) | exact isI.gx (isRd.i (by assumption)) | exact isI.gc (isRd.i (by assumption)) | exact isI.gx (isSp.i (by assumption)) | exact isW.gx (isR.w (by assumption)) | exact isW.gF (isR.w (by assumption)) | exact isK.gx (by assumption) | exact isK.gr (by assumption) | exact isI.gx (isK.row (by assumption) (by omega)) | exact isI.gc (isK.row (by assumption) (by omega)) | fail "no such object") rfl rfl (Nat.le_of_ble_eq_true rfl) (ci_has _ I_a (by decide) (hzr _) hi) (fun v_30 h_30 q_30 => ?_)
      obtain ⟨rfl, rfl⟩ := q_30
      refine rj_if_ne (pc := 33) (tgt := 39) dX10_set_33 (by decide) (by first | exact b01_r | exact bz_r | omega | (constructor <;> omega) | apply_assumption | (apply atF_r; assumption) | fail "no range") (fun c_33 => ?_) (fun c_33 => ?_)
      · try simp only [b01_0, bz_0, Classical.not_not] at c_33
        refine r_aload (pc := 39) dX10_set_39 rfl (by first | rfl | exact isRefV_rf _) ?_
        refine r_iload_n (pc := 41) dX10_set_41 rfl ?_
        refine r_iload_n (pc := 42) dX10_set_42 rfl ?_
        refine r_callV2 (pc := 43) dX10_set_43 qX1_put kX10_150 vX1_put (by first | assumption | exact isI.gx (by assumption) | exact isI.gc (by assumption) | exact isW.gx (by assumption) | exact isW.gF (by assumption) | exact isW.gT (by assumption) (by omega) | exact isW.gS (by assumption) (by omega) | exact isW.gK (by assumption) (by omega) | exact isW.g1 (by assumption) | exact isW.g2 (by assumption) | exact isW.g3 (by assumption) | exact isI.gx (isW.i0 (by assumption)) | exact isI.gc (isW.i0 (by assumption)) | exact isI.gx (isW.i1 (by assumption)) | exact isI.gc (isW.i1 (by assumption)) | exact isI.gx (isW.i2 (by assumption)) | exact isI.gc (isW.i2 (by assumption)) | exact isI.gx (isW.i3 (by assumption)) | exact isI.gc (isW.i3 (by assumption)) | exact isI.gx (isW.i4 (by assumption)) | exact isI.gc (isW.i4 (by assumption)) | exact isI.gx (isW.i5 (by assumption)) | exact isI.gc (isW.i5 (by assumption)) | exact isR.gx (by assumption) | exact isRd.gx (by assumption) | exact isSp.gx (by assumption) | exact isI.gx (isR.i (by assumption)) | exact isI.gx (isRd.i (by assumption)) | exact isI.gc (isRd.i (by assumption)) | exact isI.gx (isSp.i (by assumption)) | exact isW.gx (isR.w (by assumption)) | exact isW.gF (isR.w (by assumption)) | exact isK.gx (by assumption) | exact isK.gr (by assumption) | exact isI.gx (isK.row (by assumption) (by omega)) | exact isI.gc (isK.row (by assumption) (by omega)) | fail "no such object") rfl rfl (Nat.le_of_ble_eq_true rfl) (ci_put _ I_a (by decide) (hzr _) hi u) (fun v_43 h_43 q_43 => ?_)
        obtain ⟨rfl, I_43, S_43⟩ := q_43
        refine rj_iconst (pc := 46) dX10_set_46 ?_
        refine r_ireturn (pc := 47) .int dX10_set_47 rfl (by first | rfl | assumption) ?_
        first
        | exact Or.inl ⟨by assumption, rfl, rfl⟩
        | exact Or.inr (Or.inl ⟨by assumption, by assumption, rfl, rfl⟩)
        | exact Or.inr (Or.inr (Or.inl ⟨⟨by assumption, by assumption⟩, by assumption, rfl, rfl⟩))
        | exact Or.inr (Or.inr (Or.inr ⟨⟨by assumption, by assumption⟩, by assumption, rfl, hK.ofRow (by omega) S_43 I_43, same_ki (by omega) S_43⟩))
      · try simp only [b01_0, bz_0, Classical.not_not] at c_33
        refine rj_bipush (pc := 36) dX10_set_36 (by decide +kernel) ?_
        refine r_ireturn (pc := 38) .int dX10_set_38 rfl (by first | rfl | assumption) ?_
        first
        | exact Or.inl ⟨by assumption, rfl, rfl⟩
        | exact Or.inr (Or.inl ⟨by assumption, by assumption, rfl, rfl⟩)
        | exact Or.inr (Or.inr (Or.inl ⟨⟨by assumption, by assumption⟩, by assumption, rfl, rfl⟩))
        | exact Or.inr (Or.inr (Or.inr ⟨⟨by assumption, by assumption⟩, by assumption, rfl, hK.ofRow (by omega) S_43 I_43, same_ki (by omega) S_43⟩))
    · refine rj_bipush (pc := 24) dX10_set_24 (by decide +kernel) ?_
      refine r_ireturn (pc := 26) .int dX10_set_26 rfl (by first | rfl | assumption) ?_
      first
      | exact Or.inl ⟨by assumption, rfl, rfl⟩
      | exact Or.inr (Or.inl ⟨by assumption, by assumption, rfl, rfl⟩)
      | exact Or.inr (Or.inr (Or.inl ⟨⟨by assumption, by assumption⟩, by assumption, rfl, rfl⟩))
      | exact Or.inr (Or.inr (Or.inr ⟨⟨by assumption, by assumption⟩, by assumption, rfl, hK.ofRow (by omega) S_43 I_43, same_ki (by omega) S_43⟩))
  · obtain rfl := rwAt_N e_2 q1_2
    refine r_astore (pc := 5) dX10_set_5 (Nat.le_of_ble_eq_true rfl) (by first | rfl | exact isRefV_rf _) ?_
    dsimp only [lsSt, List.set, mLs, mEnt]
    refine r_aload (pc := 7) dX10_set_7 rfl (by first | rfl | exact isRefV_rf _) ?_
    refine r_ifnonnull (pc := 9) (tgt := 14) dX10_set_9 (by decide) (by first | rfl | exact isRefV_rf _) (fun a_9 c_9 => by cases c_9) (fun c_9 => ?_)
    refine rj_iconst (pc := 12) dX10_set_12 ?_
    refine r_ireturn (pc := 13) .int dX10_set_13 rfl (by first | rfl | assumption) ?_
    first
    | exact Or.inl ⟨by assumption, rfl, rfl⟩
    | exact Or.inr (Or.inl ⟨by assumption, by assumption, rfl, rfl⟩)
    | exact Or.inr (Or.inr (Or.inl ⟨⟨by assumption, by assumption⟩, by assumption, rfl, rfl⟩))
    | exact Or.inr (Or.inr (Or.inr ⟨⟨by assumption, by assumption⟩, by assumption, rfl, hK.ofRow (by omega) S_43 I_43, same_ki (by omega) S_43⟩))
end mg_d8

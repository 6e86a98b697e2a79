section mg_d7
set_option maxHeartbeats 4000000 in
set_option maxRecDepth 100000 in
theorem kg_row {G : mG} {l : Launch} (d : Nat) {h : mH} {x : Nat} {kp tk : Option Nat} {zr : Nat → Int} {fr : Nat → Nat → Int} {p e o zt : Int} {ft : Nat → Int} {zs : Int} {fs : Nat → Int} {b za : Int} {fa : Nat → Int} {c : Nat → Int} {C : Nat → Nat → Int} {nm : Nat → Int64} {g : Nat → Option Nat} (hK : isK h x kp tk zr fr p e o zt ft zs fs b za fa c C nm g) (hc : ∀ q, InR (c q)) (hC : ∀ k q, InR (C k q)) {a : Int} (ha : InR a) {i : Int} (hi : InR i) (hzr : ∀ q, InR (zr q)) : RUNM G l (d + 9) mX10_row [.ref x, .int (J a), .int (J i)] h (fun v h' => (¬ (0 ≤ a ∧ a < 4) ∧ v = some (.int (J (-1))) ∧ h' = h) ∨ ((0 ≤ a ∧ a < 4) ∧ 40 < i ∧ v = some (.int (J (-2))) ∧ h' = h) ∨ ((0 ≤ a ∧ a < 4) ∧ i < 0 ∧ v = some (.int (J (-14))) ∧ h' = h) ∨ ((0 ≤ a ∧ a < 4) ∧ (0 ≤ i ∧ i ≤ 40) ∧ v = some (.int (J 1)) ∧ (∃ f', isK h' x kp tk (updI zr a.toNat i) (updC fr a.toNat f') p e o zt ft zs fs b za fa c C nm g ∧ f' = zerF i.toNat (fr a.toNat)) ∧ Same (kBlk x) h h')) := by
  refine RUNM.of (by decide +kernel) (Nat.le_of_ble_eq_true rfl) ?_
  have hD := hK.d
  have hS := hK.s
  have hR := hK.r
  have hW := hK.w
  refine r_aload_n (pc := 0) dX10_row_0 rfl (by first | rfl | exact isRefV_rf _) ?_
  refine r_iload_n (pc := 1) dX10_row_1 rfl ?_
  refine r_callV1 (pc := 2) dX10_row_2 qX10_rowAt kX10_286 vX10_rowAt (by first | assumption | exact isI.gx (by assumption) | exact isI.gc (by assumption) | exact isW.gx (by assumption) | exact isW.gF (by assumption) | exact isW.gT (by assumption) (by omega) | exact isW.gS (by assumption) (by omega) | exact isW.gK (by assumption) (by omega) | exact isW.g1 (by assumption) | exact isW.g2 (by assumption) | exact isW.g3 (by assumption) | exact isI.gx (isW.i0 (by assumption)) | exact isI.gc (isW.i0 (by assumption)) | exact isI.gx (isW.i1 (by assumption)) | exact isI.gc (isW.i1 (by assumption)) | exact isI.gx (isW.i2 (by assumption)) | exact isI.gc (isW.i2 (by assumption)) | exact isI.gx (isW.i3 (by assumption)) | exact isI.gc (isW.i3 (by assumption)) | exact isI.gx (isW.i4 (by assumption)) | exact isI.gc (isW.i4 (by assumption)) | exact isI.gx (isW.i5 (by assumption)) | exact isI.gc (isW.i5 (by assumption)) | exact isR.gx (by assumption) | exact isRd.gx (by assumption) | exact isSp.gx (by assumption) | exact isI.gx (isR.i (by assumption)) | exact isI.gx (isRd.i (by assumption)) | exact isI.gc (isRd.i (by assumption)) | exact isI.gx (isSp.i (by assumption)) | exact isW.gx (isR.w (by assumption)) | exact isW.gF (isR.w (by assumption)) | exact isK.gx (by assumption) | exact isK.gr (by assumption) | exact isI.gx (isK.row (by assumption) (by omega)) | exact isI.gc (isK.row (by assumption) (by omega)) | fail "no such object") rfl rfl (Nat.le_of_ble_eq_true rfl) (kg_rowAt _ hK hc hC ha) (fun v_2 h_2 q_2 => ?_)
  obtain ⟨q1_2, rfl⟩ := q_2
  by_cases e_2 : 0 ≤ a ∧ a < 4
  · obtain rfl := rwAt_P e_2 q1_2
    have I_a := hK.row (q := a.toNat) (by omega)
    refine r_astore_n (pc := 5) dX10_row_5 (Nat.le_of_ble_eq_true rfl) (by first | rfl | exact isRefV_rf _) ?_
    dsimp only [lsSt, List.set, mLs, mEnt]
    refine r_aload_n (pc := 6) dX10_row_6 rfl (by first | rfl | exact isRefV_rf _) ?_
    refine r_ifnonnull (pc := 7) (tgt := 12) dX10_row_7 (by decide) (by first | rfl | exact isRefV_rf _) (fun a_7 c_7 => ?_) (fun c_7 => by cases c_7)
    refine r_iload_n (pc := 12) dX10_row_12 rfl ?_
    refine rj_bipush (pc := 13) dX10_row_13 (by decide +kernel) ?_
    refine rj_icmp_le (pc := 15) (tgt := 21) dX10_row_15 (by decide) (by first | exact b01_r | exact bz_r | omega | (constructor <;> omega) | apply_assumption | (apply atF_r; assumption) | fail "no range") (by first | exact b01_r | exact bz_r | omega | (constructor <;> omega) | apply_assumption | (apply atF_r; assumption) | fail "no range") (fun c_15 => ?_) (fun c_15 => ?_)
    · refine r_iload_n (pc := 21) dX10_row_21 rfl ?_
      refine rj_if_ge (pc := 22) (tgt := 28) dX10_row_22 (by decide) (by first | exact b01_r | exact bz_r | omega | (constructor <;> omega) | apply_assumption | (apply atF_r; assumption) | fail "no range") (fun c_22 => ?_) (fun c_22 => ?_)
      · refine r_aload_n (pc := 28) dX10_row_28 rfl (by first | rfl | exact isRefV_rf _) ?_
        refine r_iload_n (pc := 29) dX10_row_29 rfl ?_
        refine r_callV1 (pc := 30) dX10_row_30 qX1_becomeZeros kX10_290 vX1_becomeZeros (by first | assumption | exact isI.gx (by assumption) | exact isI.gc (by assumption) | exact isW.gx (by assumption) | exact isW.gF (by assumption) | exact isW.gT (by assumption) (by omega) | exact isW.gS (by assumption) (by omega) | exact isW.gK (by assumption) (by omega) | exact isW.g1 (by assumption) | exact isW.g2 (by assumption) | exact isW.g3 (by assumption) | exact isI.gx (isW.i0 (by assumption)) | exact isI.gc (isW.i0 (by assumption)) | exact isI.gx (isW.i1 (by assumption)) | exact isI.gc (isW.i1 (by assumption)) | exact isI.gx (isW.i2 (by assumption)) | exact isI.gc (isW.i2 (by assumption)) | exact isI.gx (isW.i3 (by assumption)) | exact isI.gc (isW.i3 (by assumption)) | exact isI.gx (isW.i4 (by assumption)) | exact isI.gc (isW.i4 (by assumption)) | exact isI.gx (isW.i5 (by assumption)) | exact isI.gc (isW.i5 (by assumption)) | exact isR.gx (by assumption) | exact isRd.gx (by assumption) | exact isSp.gx (by assumption) | exact isI.gx (isR.i (by assumption)) | exact isI.gx (isRd.i (by assumption)) | exact isI.gc (isRd.i (by assumption)) | exact isI.gx (isSp.i (by assumption)) | exact isW.gx (isR.w (by assumption)) | exact isW.gF (isR.w (by assumption)) | exact isK.gx (by assumption) | exact isK.gr (by assumption) | exact isI.gx (isK.row (by assumption) (by omega)) | exact isI.gc (isK.row (by assumption) (by omega)) | fail "no such object") rfl rfl (Nat.le_of_ble_eq_true rfl) (by have y := ci_becomeZeros (G := G) (l := l) (d + 8) I_a (by decide) (hzr _) (Z := i.toNat) (by omega); rw [show ((i.toNat : Nat) : Int) = i by omega] at y; exact y) (fun v_30 h_30 q_30 => ?_)
        obtain ⟨rfl, I_30, S_30⟩ := q_30
        refine rj_iconst (pc := 33) dX10_row_33 ?_
        refine r_ireturn (pc := 34) .int dX10_row_34 rfl (by first | rfl | assumption) ?_
        first
        | exact Or.inl ⟨by assumption, rfl, rfl⟩
        | exact Or.inr (Or.inl ⟨by assumption, by omega, rfl, rfl⟩)
        | exact Or.inr (Or.inr (Or.inl ⟨by assumption, by omega, rfl, rfl⟩))
        | exact Or.inr (Or.inr (Or.inr ⟨by assumption, ⟨by omega, by omega⟩, rfl, ⟨_, hK.ofRow (by omega) S_30 I_30, rfl⟩, same_ki (by omega) S_30⟩))
      · refine rj_bipush (pc := 25) dX10_row_25 (by decide +kernel) ?_
        refine r_ireturn (pc := 27) .int dX10_row_27 rfl (by first | rfl | assumption) ?_
        first
        | exact Or.inl ⟨by assumption, rfl, rfl⟩
        | exact Or.inr (Or.inl ⟨by assumption, by omega, rfl, rfl⟩)
        | exact Or.inr (Or.inr (Or.inl ⟨by assumption, by omega, rfl, rfl⟩))
        | exact Or.inr (Or.inr (Or.inr ⟨by assumption, ⟨by omega, by omega⟩, rfl, ⟨_, hK.ofRow (by omega) S_30 I_30, rfl⟩, same_ki (by omega) S_30⟩))
    · refine rj_bipush (pc := 18) dX10_row_18 (by decide +kernel) ?_
      refine r_ireturn (pc := 20) .int dX10_row_20 rfl (by first | rfl | assumption) ?_
      first
      | exact Or.inl ⟨by assumption, rfl, rfl⟩
      | exact Or.inr (Or.inl ⟨by assumption, by omega, rfl, rfl⟩)
      | exact Or.inr (Or.inr (Or.inl ⟨by assumption, by omega, rfl, rfl⟩))
      | exact Or.inr (Or.inr (Or.inr ⟨by assumption, ⟨by omega, by omega⟩, rfl, ⟨_, hK.ofRow (by omega) S_30 I_30, rfl⟩, same_ki (by omega) S_30⟩))
  · obtain rfl := rwAt_N e_2 q1_2
    refine r_astore_n (pc := 5) dX10_row_5 (Nat.le_of_ble_eq_true rfl) (by first | rfl | exact isRefV_rf _) ?_
    dsimp only [lsSt, List.set, mLs, mEnt]
    refine r_aload_n (pc := 6) dX10_row_6 rfl (by first | rfl | exact isRefV_rf _) ?_
    refine r_ifnonnull (pc := 7) (tgt := 12) dX10_row_7 (by decide) (by first | rfl | exact isRefV_rf _) (fun a_7 c_7 => by cases c_7) (fun c_7 => ?_)
    refine rj_iconst (pc := 10) dX10_row_10 ?_
    refine r_ireturn (pc := 11) .int dX10_row_11 rfl (by first | rfl | assumption) ?_
    first
    | exact Or.inl ⟨by assumption, rfl, rfl⟩
    | exact Or.inr (Or.inl ⟨by assumption, by omega, rfl, rfl⟩)
    | exact Or.inr (Or.inr (Or.inl ⟨by assumption, by omega, rfl, rfl⟩))
    | exact Or.inr (Or.inr (Or.inr ⟨by assumption, ⟨by omega, by omega⟩, rfl, ⟨_, hK.ofRow (by omega) S_30 I_30, rfl⟩, same_ki (by omega) S_30⟩))
end mg_d7

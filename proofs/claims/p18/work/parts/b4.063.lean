section mg_d4
set_option maxHeartbeats 4000000 in
set_option maxRecDepth 100000 in
theorem kg_run {G : mG} {l : Launch} (d : Nat) {h : mH} {x : Nat} {kp tk : Option Nat} {zr : Nat → Int} {fr : Nat → Nat → Int} {p e o zt : Int} {ft : Nat → Int} {zs : Int} {fs : Nat → Int} {b za : Int} {fa : Nat → Int} {c : Nat → Int} {C : Nat → Nat → Int} {nm : Nat → Int64} {g : Nat → Option Nat} (hK : isK h x kp tk zr fr p e o zt ft zs fs b za fa c C nm g) (hc : ∀ q, InR (c q)) (hC : ∀ k q, InR (C k q)) {a : Int} (ha : InR a) {r1 : Int} {R : mH → Prop} (hr1 : InR r1) (P : (0 ≤ a ∧ a ≤ 100) → RUNM G l (d + 13) mX3_tickUpTo [.ref (kA x 8), .int (J a)] h (fun v h' => v = some (.int (J r1)) ∧ R h')) : RUNM G l (d + 14) mX10_run [.ref x, .int (J a)] h (fun v h' => (¬ (0 ≤ a ∧ a ≤ 100) ∧ v = some (.int (J (-2))) ∧ h' = h) ∨ ((0 ≤ a ∧ a ≤ 100) ∧ v = some (.int (J r1)) ∧ R h')) := by
  refine RUNM.of (by decide +kernel) (Nat.le_of_ble_eq_true rfl) ?_
  have hD := hK.d
  have hS := hK.s
  have hR := hK.r
  have hW := hK.w
  refine r_iload_n (pc := 0) dX10_run_0 rfl ?_
  refine rj_if_lt (pc := 1) (tgt := 10) dX10_run_1 (by decide) (by first | exact b01_r | exact bz_r | omega | (constructor <;> omega) | apply_assumption | (apply atF_r; assumption) | fail "no range") (fun c_1 => ?_) (fun c_1 => ?_)
  · refine rj_bipush (pc := 10) dX10_run_10 (by decide +kernel) ?_
    refine r_goto (pc := 12) (tgt := 23) dX10_run_12 (by decide) ?_
    refine r_ireturn (pc := 23) .int dX10_run_23 rfl (by first | rfl | assumption) ?_
    first | exact Or.inl ⟨by omega, rfl, rfl⟩ | exact Or.inr ⟨by omega, rfl, by assumption⟩
  · refine r_iload_n (pc := 4) dX10_run_4 rfl ?_
    refine rj_bipush (pc := 5) dX10_run_5 (by decide +kernel) ?_
    refine rj_icmp_le (pc := 7) (tgt := 15) dX10_run_7 (by decide) (by first | exact b01_r | exact bz_r | omega | (constructor <;> omega) | apply_assumption | (apply atF_r; assumption) | fail "no range") (by first | exact b01_r | exact bz_r | omega | (constructor <;> omega) | apply_assumption | (apply atF_r; assumption) | fail "no range") (fun c_7 => ?_) (fun c_7 => ?_)
    · refine r_aload_n (pc := 15) dX10_run_15 rfl (by first | rfl | exact isRefV_rf _) ?_
      refine r_getf (pc := 16) dX10_run_16 fX10_43 (by first | assumption | exact isI.gx (by assumption) | exact isI.gc (by assumption) | exact isW.gx (by assumption) | exact isW.gF (by assumption) | exact isW.gT (by assumption) (by omega) | exact isW.gS (by assumption) (by omega) | exact isW.gK (by assumption) (by omega) | exact isW.g1 (by assumption) | exact isW.g2 (by assumption) | exact isW.g3 (by assumption) | exact isI.gx (isW.i0 (by assumption)) | exact isI.gc (isW.i0 (by assumption)) | exact isI.gx (isW.i1 (by assumption)) | exact isI.gc (isW.i1 (by assumption)) | exact isI.gx (isW.i2 (by assumption)) | exact isI.gc (isW.i2 (by assumption)) | exact isI.gx (isW.i3 (by assumption)) | exact isI.gc (isW.i3 (by assumption)) | exact isI.gx (isW.i4 (by assumption)) | exact isI.gc (isW.i4 (by assumption)) | exact isI.gx (isW.i5 (by assumption)) | exact isI.gc (isW.i5 (by assumption)) | exact isR.gx (by assumption) | exact isRd.gx (by assumption) | exact isSp.gx (by assumption) | exact isI.gx (isR.i (by assumption)) | exact isI.gx (isRd.i (by assumption)) | exact isI.gc (isRd.i (by assumption)) | exact isI.gx (isSp.i (by assumption)) | exact isW.gx (isR.w (by assumption)) | exact isW.gF (isR.w (by assumption)) | exact isK.gx (by assumption) | exact isK.gr (by assumption) | exact isI.gx (isK.row (by assumption) (by omega)) | exact isI.gc (isK.row (by assumption) (by omega)) | fail "no such object") (by rfl) ?_
      refine r_iload_n (pc := 19) dX10_run_19 rfl ?_
      refine r_callV1 (pc := 20) dX10_run_20 qX3_tickUpTo kX10_224 vX3_tickUpTo (by first | assumption | exact isI.gx (by assumption) | exact isI.gc (by assumption) | exact isW.gx (by assumption) | exact isW.gF (by assumption) | exact isW.gT (by assumption) (by omega) | exact isW.gS (by assumption) (by omega) | exact isW.gK (by assumption) (by omega) | exact isW.g1 (by assumption) | exact isW.g2 (by assumption) | exact isW.g3 (by assumption) | exact isI.gx (isW.i0 (by assumption)) | exact isI.gc (isW.i0 (by assumption)) | exact isI.gx (isW.i1 (by assumption)) | exact isI.gc (isW.i1 (by assumption)) | exact isI.gx (isW.i2 (by assumption)) | exact isI.gc (isW.i2 (by assumption)) | exact isI.gx (isW.i3 (by assumption)) | exact isI.gc (isW.i3 (by assumption)) | exact isI.gx (isW.i4 (by assumption)) | exact isI.gc (isW.i4 (by assumption)) | exact isI.gx (isW.i5 (by assumption)) | exact isI.gc (isW.i5 (by assumption)) | exact isR.gx (by assumption) | exact isRd.gx (by assumption) | exact isSp.gx (by assumption) | exact isI.gx (isR.i (by assumption)) | exact isI.gx (isRd.i (by assumption)) | exact isI.gc (isRd.i (by assumption)) | exact isI.gx (isSp.i (by assumption)) | exact isW.gx (isR.w (by assumption)) | exact isW.gF (isR.w (by assumption)) | exact isK.gx (by assumption) | exact isK.gr (by assumption) | exact isI.gx (isK.row (by assumption) (by omega)) | exact isI.gc (isK.row (by assumption) (by omega)) | fail "no such object") rfl rfl (Nat.le_of_ble_eq_true rfl) (P (by omega)) (fun v_20 h_20 q_20 => ?_)
      obtain ⟨rfl, R_20⟩ := q_20
      refine r_ireturn (pc := 23) .int dX10_run_23 rfl (by first | rfl | assumption) ?_
      first | exact Or.inl ⟨by omega, rfl, rfl⟩ | exact Or.inr ⟨by omega, rfl, by assumption⟩
    · refine rj_bipush (pc := 10) dX10_run_10 (by decide +kernel) ?_
      refine r_goto (pc := 12) (tgt := 23) dX10_run_12 (by decide) ?_
      refine r_ireturn (pc := 23) .int dX10_run_23 rfl (by first | rfl | assumption) ?_
      first | exact Or.inl ⟨by omega, rfl, rfl⟩ | exact Or.inr ⟨by omega, rfl, by assumption⟩
end mg_d4

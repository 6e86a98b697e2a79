section mg_90
set_option maxHeartbeats 4000000 in
set_option maxRecDepth 100000 in
theorem L_isLess {G : mG} {l : Launch} (d : Nat) {h : mH} {y : Int64} {a : Nat} {z : Int} {f : Nat → Int} (I : isI h a 120 z f) (hz : InR z) (hf : ∀ q, InR (f q)) : ∀ (n t : Nat) (o0 : Option Value), t + n = 8 → RUN G l (d + 2) mX9_isLess 2 [some (.long y), none, some (.ref a), some (.int (J (t : Int))), o0] [] h (fun v h' => v = some (.int (J (bz (lessL y z f n t)))) ∧ h' = h) := by
  intro n
  induction n with
  | zero =>
    intro t o0 ht
    refine r_iload_n (pc := 2) dX9_isLess_2 rfl ?_
    refine rj_bipush (pc := 3) dX9_isLess_3 (by decide +kernel) ?_
    refine rj_icmp_gt (pc := 5) (tgt := 47) dX9_isLess_5 (by decide) (by first | exact b01_r | exact bz_r | omega | (constructor <;> omega) | apply_assumption | (apply atF_r; assumption) | fail "no range") (by first | exact b01_r | exact bz_r | omega | (constructor <;> omega) | apply_assumption | (apply atF_r; assumption) | fail "no range") (fun c_5 => ?_) (fun c_5 => ?_)
    · refine rj_iconst (pc := 47) dX9_isLess_47 ?_
      refine r_ireturn (pc := 48) .boolean dX9_isLess_48 rfl (by first | exact nar_J0 | exact nar_J1 | exact nar_b01 | exact nar_bz) ?_
      exact ⟨rfl, rfl⟩
    · exfalso; omega
  | succ n ih =>
    intro t o0 ht
    refine r_iload_n (pc := 2) dX9_isLess_2 rfl ?_
    refine rj_bipush (pc := 3) dX9_isLess_3 (by decide +kernel) ?_
    refine rj_icmp_gt (pc := 5) (tgt := 47) dX9_isLess_5 (by decide) (by first | exact b01_r | exact bz_r | omega | (constructor <;> omega) | apply_assumption | (apply atF_r; assumption) | fail "no range") (by first | exact b01_r | exact bz_r | omega | (constructor <;> omega) | apply_assumption | (apply atF_r; assumption) | fail "no range") (fun c_5 => ?_) (fun c_5 => ?_)
    · refine rj_iconst (pc := 47) dX9_isLess_47 ?_
      refine r_ireturn (pc := 48) .boolean dX9_isLess_48 rfl (by first | exact nar_J0 | exact nar_J1 | exact nar_b01 | exact nar_bz) ?_
      first | (exfalso; omega) | exact ⟨by rw [lessL, if_neg c_22, decide_eq_true (by omega)]; rfl, rfl⟩ | exact ⟨by rw [lessL, if_neg c_22, decide_eq_false (by omega)]; rfl, rfl⟩
    · refine r_lload_n (pc := 8) dX9_isLess_8 rfl ?_
      refine r_iload_n (pc := 9) dX9_isLess_9 rfl ?_
      refine r_callS2 (pc := 10) dX9_isLess_10 qX10_letterOf kX9_176 sX10_letterOf (Nat.le_of_ble_eq_true rfl) (cz_letterOf _ (y := y) (i := (t : Int)) ⟨by omega, by omega⟩) (fun v_10 h_10 q_10 => ?_)
      obtain ⟨rfl, rfl⟩ := q_10
      have ro := letV_r y (t : Int)
      have rat := atF_r (n := 120) (z := z) (i := (t : Int)) hf
      refine r_istore (pc := 13) dX9_isLess_13 (Nat.le_of_ble_eq_true rfl) ?_
      dsimp only [lsSt, List.set, mLs, mEnt]
      refine r_iload (pc := 15) dX9_isLess_15 rfl ?_
      refine r_aload_n (pc := 17) dX9_isLess_17 rfl (by first | rfl | exact isRefV_rf _) ?_
      refine r_iload_n (pc := 18) dX9_isLess_18 rfl ?_
      refine r_callV1 (pc := 19) dX9_isLess_19 qX1_at kX9_147 vX1_at (by first | assumption | exact isI.gx (by assumption) | exact isI.gc (by assumption) | exact isW.gx (by assumption) | exact isW.gF (by assumption) | exact isW.gT (by assumption) (by omega) | exact isW.gS (by assumption) (by omega) | exact isW.gK (by assumption) (by omega) | exact isW.g1 (by assumption) | exact isW.g2 (by assumption) | exact isW.g3 (by assumption) | exact isI.gx (isW.i0 (by assumption)) | exact isI.gc (isW.i0 (by assumption)) | exact isI.gx (isW.i1 (by assumption)) | exact isI.gc (isW.i1 (by assumption)) | exact isI.gx (isW.i2 (by assumption)) | exact isI.gc (isW.i2 (by assumption)) | exact isI.gx (isW.i3 (by assumption)) | exact isI.gc (isW.i3 (by assumption)) | exact isI.gx (isW.i4 (by assumption)) | exact isI.gc (isW.i4 (by assumption)) | exact isI.gx (isW.i5 (by assumption)) | exact isI.gc (isW.i5 (by assumption)) | exact isR.gx (by assumption) | exact isRd.gx (by assumption) | exact isSp.gx (by assumption) | exact isI.gx (isR.i (by assumption)) | exact isI.gx (isRd.i (by assumption)) | exact isI.gc (isRd.i (by assumption)) | exact isI.gx (isSp.i (by assumption)) | exact isW.gx (isR.w (by assumption)) | exact isW.gF (isR.w (by assumption)) | fail "no such object") rfl rfl (Nat.le_of_ble_eq_true rfl) (ci_at _ I (by decide) hz (i := (t : Int)) ⟨by omega, by omega⟩) (fun v_19 h_19 q_19 => ?_)
      obtain ⟨rfl, rfl⟩ := q_19
      refine rj_icmp_eq (pc := 22) (tgt := 41) dX9_isLess_22 (by decide) (by first | exact b01_r | exact bz_r | omega | (constructor <;> omega) | apply_assumption | (apply atF_r; assumption) | fail "no range") (by first | exact b01_r | exact bz_r | omega | (constructor <;> omega) | apply_assumption | (apply atF_r; assumption) | fail "no range") (fun c_22 => ?_) (fun c_22 => ?_)
      · refine rj_iinc (pc := 41) dX9_isLess_41 (Nat.le_of_ble_eq_true rfl) rfl ?_
        dsimp only [lsSt, List.set, mLs, mEnt]
        refine r_goto (pc := 44) (tgt := 2) dX9_isLess_44 (by decide) ?_
        have e1 : ((t + 1 : Nat) : Int) = (t : Int) + 1 := by omega
        have z := fun o0 => ih (t + 1) o0 (by omega)
        simp only [e1] at z
        rw [lessL, if_pos c_22]
        exact z _
      · refine r_iload (pc := 25) dX9_isLess_25 rfl ?_
        refine r_aload_n (pc := 27) dX9_isLess_27 rfl (by first | rfl | exact isRefV_rf _) ?_
        refine r_iload_n (pc := 28) dX9_isLess_28 rfl ?_
        refine r_callV1 (pc := 29) dX9_isLess_29 qX1_at kX9_147 vX1_at (by first | assumption | exact isI.gx (by assumption) | exact isI.gc (by assumption) | exact isW.gx (by assumption) | exact isW.gF (by assumption) | exact isW.gT (by assumption) (by omega) | exact isW.gS (by assumption) (by omega) | exact isW.gK (by assumption) (by omega) | exact isW.g1 (by assumption) | exact isW.g2 (by assumption) | exact isW.g3 (by assumption) | exact isI.gx (isW.i0 (by assumption)) | exact isI.gc (isW.i0 (by assumption)) | exact isI.gx (isW.i1 (by assumption)) | exact isI.gc (isW.i1 (by assumption)) | exact isI.gx (isW.i2 (by assumption)) | exact isI.gc (isW.i2 (by assumption)) | exact isI.gx (isW.i3 (by assumption)) | exact isI.gc (isW.i3 (by assumption)) | exact isI.gx (isW.i4 (by assumption)) | exact isI.gc (isW.i4 (by assumption)) | exact isI.gx (isW.i5 (by assumption)) | exact isI.gc (isW.i5 (by assumption)) | exact isR.gx (by assumption) | exact isRd.gx (by assumption) | exact isSp.gx (by assumption) | exact isI.gx (isR.i (by assumption)) | exact isI.gx (isRd.i (by assumption)) | exact isI.gc (isRd.i (by assumption)) | exact isI.gx (isSp.i (by assumption)) | exact isW.gx (isR.w (by assumption)) | exact isW.gF (isR.w (by assumption)) | fail "no such object") rfl rfl (Nat.le_of_ble_eq_true rfl) (ci_at _ I (by decide) hz (i := (t : Int)) ⟨by omega, by omega⟩) (fun v_29 h_29 q_29 => ?_)
        obtain ⟨rfl, rfl⟩ := q_29
        refine rj_icmp_ge (pc := 32) (tgt := 39) dX9_isLess_32 (by decide) (by first | exact b01_r | exact bz_r | omega | (constructor <;> omega) | apply_assumption | (apply atF_r; assumption) | fail "no range") (by first | exact b01_r | exact bz_r | omega | (constructor <;> omega) | apply_assumption | (apply atF_r; assumption) | fail "no range") (fun c_32 => ?_) (fun c_32 => ?_)
        · refine rj_iconst (pc := 39) dX9_isLess_39 ?_
          refine r_ireturn (pc := 40) .boolean dX9_isLess_40 rfl (by first | exact nar_J0 | exact nar_J1 | exact nar_b01 | exact nar_bz) ?_
          first | (exfalso; omega) | exact ⟨by rw [lessL, if_neg c_22, decide_eq_true (by omega)]; rfl, rfl⟩ | exact ⟨by rw [lessL, if_neg c_22, decide_eq_false (by omega)]; rfl, rfl⟩
        · refine rj_iconst (pc := 35) dX9_isLess_35 ?_
          refine r_goto (pc := 36) (tgt := 40) dX9_isLess_36 (by decide) ?_
          refine r_ireturn (pc := 40) .boolean dX9_isLess_40 rfl (by first | exact nar_J0 | exact nar_J1 | exact nar_b01 | exact nar_bz) ?_
          first | (exfalso; omega) | exact ⟨by rw [lessL, if_neg c_22, decide_eq_true (by omega)]; rfl, rfl⟩ | exact ⟨by rw [lessL, if_neg c_22, decide_eq_false (by omega)]; rfl, rfl⟩
end mg_90

section mg_90
set_option maxHeartbeats 4000000 in
set_option maxRecDepth 100000 in
theorem cz_letterOf {G : mG} {l : Launch} (d : Nat) {h : mH} {y : Int64} {i : Int} (hi : InR i) : RUNM G l (d) mX10_letterOf [.long y, .int (J i)] h (fun v h' => v = some (.int (J (letV y i))) ∧ h' = h) := by
  refine RUNM.of (by decide +kernel) (Nat.le_of_ble_eq_true rfl) ?_
  refine r_iload_n (pc := 0) dX10_letterOf_0 rfl ?_
  refine rj_if_lt (pc := 1) (tgt := 10) dX10_letterOf_1 (by decide) (by first | exact b01_r | exact bz_r | omega | (constructor <;> omega) | apply_assumption | (apply atF_r; assumption) | fail "no range") (fun c_1 => ?_) (fun c_1 => ?_)
  · refine rj_iconst (pc := 10) dX10_letterOf_10 ?_
    refine r_ireturn (pc := 11) .int dX10_letterOf_11 rfl (by first | rfl | assumption) ?_
    first | (exfalso; omega) | exact ⟨by unfold letV; rw [if_neg (by omega)], rfl⟩ | exact ⟨by unfold letV; rw [if_pos (by omega), if_pos (by assumption)], rfl⟩ | exact ⟨by unfold letV; rw [if_pos (by omega), if_neg (by assumption)], rfl⟩
  · refine r_iload_n (pc := 4) dX10_letterOf_4 rfl ?_
    refine rj_bipush (pc := 5) dX10_letterOf_5 (by decide +kernel) ?_
    refine rj_icmp_lt (pc := 7) (tgt := 12) dX10_letterOf_7 (by decide) (by first | exact b01_r | exact bz_r | omega | (constructor <;> omega) | apply_assumption | (apply atF_r; assumption) | fail "no range") (by first | exact b01_r | exact bz_r | omega | (constructor <;> omega) | apply_assumption | (apply atF_r; assumption) | fail "no range") (fun c_7 => ?_) (fun c_7 => ?_)
    · refine r_lload_n (pc := 12) dX10_letterOf_12 rfl ?_
      refine rj_iconst (pc := 13) dX10_letterOf_13 ?_
      refine rj_bipush (pc := 14) dX10_letterOf_14 (by decide +kernel) ?_
      refine r_iload_n (pc := 16) dX10_letterOf_16 rfl ?_
      refine rj_isub (pc := 17) dX10_letterOf_17 ?_
      refine rj_imul (pc := 18) dX10_letterOf_18 ?_
      refine r_lshr (pc := 19) dX10_letterOf_19 ?_
      refine r_l2i (pc := 20) dX10_letterOf_20 ?_
      refine rj_bipush (pc := 21) dX10_letterOf_21 (by decide +kernel) ?_
      refine r_iand (pc := 23) dX10_letterOf_23 ?_
      rw [show ((y >>> ((J (5 * (6 - i))).toInt64 &&& 63)).toInt32 &&& J 31) = J (letA y i) from J_of _]
      have ra := letA_r y i
      refine r_istore_n (pc := 24) dX10_letterOf_24 (Nat.le_of_ble_eq_true rfl) ?_
      dsimp only [lsSt, List.set, mLs, mEnt]
      refine r_iload_n (pc := 25) dX10_letterOf_25 rfl ?_
      refine rj_if_ne (pc := 26) (tgt := 33) dX10_letterOf_26 (by decide) (by first | exact b01_r | exact bz_r | omega | (constructor <;> omega) | apply_assumption | (apply atF_r; assumption) | fail "no range") (fun c_26 => ?_) (fun c_26 => ?_)
      · try simp only [b01_0, bz_0, Classical.not_not] at c_26
        refine r_iload_n (pc := 33) dX10_letterOf_33 rfl ?_
        refine rj_bipush (pc := 34) dX10_letterOf_34 (by decide +kernel) ?_
        refine rj_iadd (pc := 36) dX10_letterOf_36 ?_
        refine rj_iconst (pc := 37) dX10_letterOf_37 ?_
        refine rj_isub (pc := 38) dX10_letterOf_38 ?_
        refine r_ireturn (pc := 39) .int dX10_letterOf_39 rfl (by first | rfl | assumption) ?_
        first | (exfalso; omega) | exact ⟨by unfold letV; rw [if_neg (by omega)], rfl⟩ | exact ⟨by unfold letV; rw [if_pos (by omega), if_pos (by assumption)], rfl⟩ | exact ⟨by unfold letV; rw [if_pos (by omega), if_neg (by assumption)], rfl⟩
      · try simp only [b01_0, bz_0, Classical.not_not] at c_26
        refine rj_iconst (pc := 29) dX10_letterOf_29 ?_
        refine r_goto (pc := 30) (tgt := 39) dX10_letterOf_30 (by decide) ?_
        refine r_ireturn (pc := 39) .int dX10_letterOf_39 rfl (by first | rfl | assumption) ?_
        first | (exfalso; omega) | exact ⟨by unfold letV; rw [if_neg (by omega)], rfl⟩ | exact ⟨by unfold letV; rw [if_pos (by omega), if_pos (by assumption)], rfl⟩ | exact ⟨by unfold letV; rw [if_pos (by omega), if_neg (by assumption)], rfl⟩
    · refine rj_iconst (pc := 10) dX10_letterOf_10 ?_
      refine r_ireturn (pc := 11) .int dX10_letterOf_11 rfl (by first | rfl | assumption) ?_
      first | (exfalso; omega) | exact ⟨by unfold letV; rw [if_neg (by omega)], rfl⟩ | exact ⟨by unfold letV; rw [if_pos (by omega), if_pos (by assumption)], rfl⟩ | exact ⟨by unfold letV; rw [if_pos (by omega), if_neg (by assumption)], rfl⟩
end mg_90

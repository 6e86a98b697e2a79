section mg_90
set_option maxHeartbeats 4000000 in
set_option maxRecDepth 100000 in
theorem L_lettersOf {G : mG} {l : Launch} (d : Nat) {h : mH} {y : Int64} : ∀ n t : Nat, t + n = 7 → RUN G l (d + 1) mX10_lettersOf 2 [some (.long y), none, some (.int (J (t : Int)))] [] h (fun v h' => v = some (.int (J (lnL y n t))) ∧ h' = h) := by
  intro n
  induction n with
  | zero =>
    intro t ht
    refine r_iload_n (pc := 2) dX10_lettersOf_2 rfl ?_
    refine rj_bipush (pc := 3) dX10_lettersOf_3 (by decide +kernel) ?_
    refine rj_icmp_ge (pc := 5) (tgt := 22) dX10_lettersOf_5 (by decide) (by first | exact b01_r | exact bz_r | omega | (constructor <;> omega) | apply_assumption | (apply atF_r; assumption) | fail "no range") (by first | exact b01_r | exact bz_r | omega | (constructor <;> omega) | apply_assumption | (apply atF_r; assumption) | fail "no range") (fun c_5 => ?_) (fun c_5 => ?_)
    · refine r_iload_n (pc := 22) dX10_lettersOf_22 rfl ?_
      refine r_ireturn (pc := 23) .int dX10_lettersOf_23 rfl (by first | rfl | assumption) ?_
      exact ⟨rfl, rfl⟩
    · exfalso; omega
  | succ n ih =>
    intro t ht
    refine r_iload_n (pc := 2) dX10_lettersOf_2 rfl ?_
    refine rj_bipush (pc := 3) dX10_lettersOf_3 (by decide +kernel) ?_
    refine rj_icmp_ge (pc := 5) (tgt := 22) dX10_lettersOf_5 (by decide) (by first | exact b01_r | exact bz_r | omega | (constructor <;> omega) | apply_assumption | (apply atF_r; assumption) | fail "no range") (by first | exact b01_r | exact bz_r | omega | (constructor <;> omega) | apply_assumption | (apply atF_r; assumption) | fail "no range") (fun c_5 => ?_) (fun c_5 => ?_)
    · refine r_iload_n (pc := 22) dX10_lettersOf_22 rfl ?_
      refine r_ireturn (pc := 23) .int dX10_lettersOf_23 rfl (by first | rfl | assumption) ?_
      first | (exfalso; omega) | exact ⟨by rw [lnL, if_pos c_13], rfl⟩
    · refine r_lload_n (pc := 8) dX10_lettersOf_8 rfl ?_
      refine r_iload_n (pc := 9) dX10_lettersOf_9 rfl ?_
      refine r_callS2 (pc := 10) dX10_lettersOf_10 qX10_letterOf kX10_190 sX10_letterOf (Nat.le_of_ble_eq_true rfl) (cz_letterOf _ (y := y) (i := (t : Int)) ⟨by omega, by omega⟩) (fun v_10 h_10 q_10 => ?_)
      obtain ⟨rfl, rfl⟩ := q_10
      have ro := letV_r y (t : Int)
      refine rj_if_eq (pc := 13) (tgt := 22) dX10_lettersOf_13 (by decide) (by first | exact b01_r | exact bz_r | omega | (constructor <;> omega) | apply_assumption | (apply atF_r; assumption) | fail "no range") (fun c_13 => ?_) (fun c_13 => ?_)
      · try simp only [b01_0, bz_0, Classical.not_not] at c_13
        refine r_iload_n (pc := 22) dX10_lettersOf_22 rfl ?_
        refine r_ireturn (pc := 23) .int dX10_lettersOf_23 rfl (by first | rfl | assumption) ?_
        first | (exfalso; omega) | exact ⟨by rw [lnL, if_pos c_13], rfl⟩
      · try simp only [b01_0, bz_0, Classical.not_not] at c_13
        refine rj_iinc (pc := 16) dX10_lettersOf_16 (Nat.le_of_ble_eq_true rfl) rfl ?_
        dsimp only [lsSt, List.set, mLs, mEnt]
        refine r_goto (pc := 19) (tgt := 2) dX10_lettersOf_19 (by decide) ?_
        have z := ih (t + 1) (by omega)
        rw [show ((t + 1 : Nat) : Int) = (t : Int) + 1 by omega] at z
        rw [lnL, if_neg c_13]
        exact z
end mg_90

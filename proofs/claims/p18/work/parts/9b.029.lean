section mg_9i
set_option maxHeartbeats 4000000 in
set_option maxRecDepth 100000 in
theorem L_tickUpTo {G : mG} {l : Launch} (d : Nat) {r : Nat} {T : Nat → mH → Prop} {N : Nat} {M : Int} (hN : (N : Int) ≤ M ∧ M ≤ 1000) (ho : ∀ k h, T k h → isO3 h r) (step : ∀ k h, k < N → T k h → ∃ n : Int, ∃ R1 : mH → Prop, InR n ∧ 0 ≤ n ∧ RUNM G l d mX3_beginTurn [.ref r] h (fun v h' => v = some (.int (J n)) ∧ R1 h') ∧ (∀ h', R1 h' → isO3 h' r) ∧ ∀ h', R1 h' → WK G l d r h' (T (k + 1))) (last : (N : Int) = M ∨ ∀ h, T N h → RUNM G l d mX3_beginTurn [.ref r] h (fun v h' => v = some (.int (J (-5))) ∧ h' = h)) : ∀ (j k : Nat) (h : mH), k + j = N → T k h → RUN G l (d + 1) mX3_tickUpTo 2 [some (.ref r), some (.int (J M)), some (.int (J (k : Int)))] [] h (fun v h' => v = some (.int (J (N : Int))) ∧ T N h') := by
  intro j
  induction j with
  | zero =>
    intro k h hk hT
    obtain rfl : k = N := by omega
    obtain ⟨fs, gx⟩ := ho _ _ hT
    refine r_iload_n (pc := 2) dX3_tickUpTo_2 rfl ?_
    refine r_iload_n (pc := 3) dX3_tickUpTo_3 rfl ?_
    refine rj_icmp_ge (pc := 4) (tgt := 24) dX3_tickUpTo_4 (by decide) (by first | exact b01_r | exact bz_r | omega | (constructor <;> omega) | apply_assumption | (apply atF_r; assumption) | fail "no range") (by first | exact b01_r | exact bz_r | omega | (constructor <;> omega) | apply_assumption | (apply atF_r; assumption) | fail "no range") (fun c_4 => ?_) (fun c_4 => ?_)
    · refine r_iload_n (pc := 24) dX3_tickUpTo_24 rfl ?_
      refine r_ireturn (pc := 25) .int dX3_tickUpTo_25 rfl (by first | rfl | assumption) ?_
      exact ⟨rfl, hT⟩
    · refine r_aload_n (pc := 7) dX3_tickUpTo_7 rfl (by first | rfl | exact isRefV_rf _) ?_
      rcases last with e | B
      · exfalso; omega
      have yB := B _ hT
      refine r_callV0 (pc := 8) dX3_tickUpTo_8 qX3_beginTurn kX3_50 vX3_beginTurn (by first | assumption | exact isI.gx (by assumption) | exact isI.gc (by assumption) | exact isW.gx (by assumption) | exact isW.gF (by assumption) | exact isW.gT (by assumption) (by omega) | exact isW.gS (by assumption) (by omega) | exact isW.gK (by assumption) (by omega) | exact isW.g1 (by assumption) | exact isW.g2 (by assumption) | exact isW.g3 (by assumption) | exact isI.gx (isW.i0 (by assumption)) | exact isI.gc (isW.i0 (by assumption)) | exact isI.gx (isW.i1 (by assumption)) | exact isI.gc (isW.i1 (by assumption)) | exact isI.gx (isW.i2 (by assumption)) | exact isI.gc (isW.i2 (by assumption)) | exact isI.gx (isW.i3 (by assumption)) | exact isI.gc (isW.i3 (by assumption)) | exact isI.gx (isW.i4 (by assumption)) | exact isI.gc (isW.i4 (by assumption)) | exact isI.gx (isW.i5 (by assumption)) | exact isI.gc (isW.i5 (by assumption)) | exact isR.gx (by assumption) | exact isRd.gx (by assumption) | exact isSp.gx (by assumption) | exact isI.gx (isR.i (by assumption)) | exact isI.gx (isRd.i (by assumption)) | exact isI.gc (isRd.i (by assumption)) | exact isI.gx (isSp.i (by assumption)) | exact isW.gx (isR.w (by assumption)) | exact isW.gF (isR.w (by assumption)) | fail "no such object") rfl rfl (Nat.le_of_ble_eq_true rfl) (yB) (fun v_8 h_8 q_8 => ?_)
      obtain ⟨rfl, rfl⟩ := q_8
      refine rj_if_lt (pc := 11) (tgt := 24) dX3_tickUpTo_11 (by decide) (by first | exact b01_r | exact bz_r | omega | (constructor <;> omega) | apply_assumption | (apply atF_r; assumption) | fail "no range") (fun c_11 => ?_) (fun c_11 => ?_)
      · refine r_iload_n (pc := 24) dX3_tickUpTo_24 rfl ?_
        refine r_ireturn (pc := 25) .int dX3_tickUpTo_25 rfl (by first | rfl | assumption) ?_
        exact ⟨rfl, hT⟩
      · exfalso; omega
  | succ j ih =>
    intro k h hk hT
    obtain ⟨fs, gx⟩ := ho _ _ hT
    obtain ⟨n, R1, hn, hn0, B, o1, W⟩ := step k h (by omega) hT
    refine r_iload_n (pc := 2) dX3_tickUpTo_2 rfl ?_
    refine r_iload_n (pc := 3) dX3_tickUpTo_3 rfl ?_
    refine rj_icmp_ge (pc := 4) (tgt := 24) dX3_tickUpTo_4 (by decide) (by first | exact b01_r | exact bz_r | omega | (constructor <;> omega) | apply_assumption | (apply atF_r; assumption) | fail "no range") (by first | exact b01_r | exact bz_r | omega | (constructor <;> omega) | apply_assumption | (apply atF_r; assumption) | fail "no range") (fun c_4 => ?_) (fun c_4 => ?_)
    · exfalso; omega
    · refine r_aload_n (pc := 7) dX3_tickUpTo_7 rfl (by first | rfl | exact isRefV_rf _) ?_
      refine r_callV0 (pc := 8) dX3_tickUpTo_8 qX3_beginTurn kX3_50 vX3_beginTurn (by first | assumption | exact isI.gx (by assumption) | exact isI.gc (by assumption) | exact isW.gx (by assumption) | exact isW.gF (by assumption) | exact isW.gT (by assumption) (by omega) | exact isW.gS (by assumption) (by omega) | exact isW.gK (by assumption) (by omega) | exact isW.g1 (by assumption) | exact isW.g2 (by assumption) | exact isW.g3 (by assumption) | exact isI.gx (isW.i0 (by assumption)) | exact isI.gc (isW.i0 (by assumption)) | exact isI.gx (isW.i1 (by assumption)) | exact isI.gc (isW.i1 (by assumption)) | exact isI.gx (isW.i2 (by assumption)) | exact isI.gc (isW.i2 (by assumption)) | exact isI.gx (isW.i3 (by assumption)) | exact isI.gc (isW.i3 (by assumption)) | exact isI.gx (isW.i4 (by assumption)) | exact isI.gc (isW.i4 (by assumption)) | exact isI.gx (isW.i5 (by assumption)) | exact isI.gc (isW.i5 (by assumption)) | exact isR.gx (by assumption) | exact isRd.gx (by assumption) | exact isSp.gx (by assumption) | exact isI.gx (isR.i (by assumption)) | exact isI.gx (isRd.i (by assumption)) | exact isI.gc (isRd.i (by assumption)) | exact isI.gx (isSp.i (by assumption)) | exact isW.gx (isR.w (by assumption)) | exact isW.gF (isR.w (by assumption)) | fail "no such object") rfl rfl (Nat.le_of_ble_eq_true rfl) (B) (fun v_8 h_8 q_8 => ?_)
      obtain ⟨rfl, Q_8⟩ := q_8
      obtain ⟨fs1, gx1⟩ := o1 _ Q_8
      have y := W _ Q_8
      unfold WK at y
      refine rj_if_lt (pc := 11) (tgt := 24) dX3_tickUpTo_11 (by decide) (by first | exact b01_r | exact bz_r | omega | (constructor <;> omega) | apply_assumption | (apply atF_r; assumption) | fail "no range") (fun c_11 => ?_) (fun c_11 => ?_)
      · exfalso; omega
      · refine r_aload_n (pc := 14) dX3_tickUpTo_14 rfl (by first | rfl | exact isRefV_rf _) ?_
        refine r_callV0 (pc := 15) dX3_tickUpTo_15 qX3_work kX3_43 vX3_work (by first | assumption | exact isI.gx (by assumption) | exact isI.gc (by assumption) | exact isW.gx (by assumption) | exact isW.gF (by assumption) | exact isW.gT (by assumption) (by omega) | exact isW.gS (by assumption) (by omega) | exact isW.gK (by assumption) (by omega) | exact isW.g1 (by assumption) | exact isW.g2 (by assumption) | exact isW.g3 (by assumption) | exact isI.gx (isW.i0 (by assumption)) | exact isI.gc (isW.i0 (by assumption)) | exact isI.gx (isW.i1 (by assumption)) | exact isI.gc (isW.i1 (by assumption)) | exact isI.gx (isW.i2 (by assumption)) | exact isI.gc (isW.i2 (by assumption)) | exact isI.gx (isW.i3 (by assumption)) | exact isI.gc (isW.i3 (by assumption)) | exact isI.gx (isW.i4 (by assumption)) | exact isI.gc (isW.i4 (by assumption)) | exact isI.gx (isW.i5 (by assumption)) | exact isI.gc (isW.i5 (by assumption)) | exact isR.gx (by assumption) | exact isRd.gx (by assumption) | exact isSp.gx (by assumption) | exact isI.gx (isR.i (by assumption)) | exact isI.gx (isRd.i (by assumption)) | exact isI.gc (isRd.i (by assumption)) | exact isI.gx (isSp.i (by assumption)) | exact isW.gx (isR.w (by assumption)) | exact isW.gF (isR.w (by assumption)) | fail "no such object") rfl rfl (Nat.le_of_ble_eq_true rfl) (y) (fun v_15 h_15 q_15 => ?_)
        obtain ⟨rfl, Q_15⟩ := q_15
        refine rj_iinc (pc := 18) dX3_tickUpTo_18 (Nat.le_of_ble_eq_true rfl) rfl ?_
        dsimp only [lsSt, List.set, mLs, mEnt]
        refine r_goto (pc := 21) (tgt := 2) dX3_tickUpTo_21 (by decide) ?_
        have y := ih (k + 1) _ (by omega) Q_15
        rw [show ((k + 1 : Nat) : Int) = (k : Int) + 1 by omega] at y
        exact y
end mg_9i

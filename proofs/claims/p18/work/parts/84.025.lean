section mg_86
set_option maxHeartbeats 4000000 in
set_option maxRecDepth 100000 in
theorem L_readyTasks {G : mG} {l : Launch} (d : Nat) {h : mH} {w : Nat} {c : Nat → Int} {C : Nat → Nat → Int} {nm : Nat → Int64} {g : Nat → Option Nat} (hW : isW h w c C nm g) (hc : ∀ q, InR (c q)) {K : Nat} (hK : c 2 = (K : Int)) (hcapK : K ≤ 10) : ∀ k t : Nat, t + k = K → RUN G l (d + 2) mX9_readyTasks 4 [some (.ref w), some (.int (J (cnt (ryB c) t))), some (.int (J (t : Int)))] [] h (fun v h' => v = some (.int (J (cnt (ryB c) K))) ∧ h' = h) := by
  intro k
  induction k with
  | zero =>
    intro t ht
    refine r_iload_n (pc := 4) dX9_readyTasks_4 rfl ?_
    refine r_aload_n (pc := 5) dX9_readyTasks_5 rfl (by first | rfl | exact isRefV_rf _) ?_
    refine r_getf (pc := 6) dX9_readyTasks_6 fX9_81 (by first | assumption | exact isI.gx (by assumption) | exact isI.gc (by assumption) | exact isW.gx (by assumption) | exact isW.gF (by assumption) | exact isW.gT (by assumption) (by omega) | exact isW.gS (by assumption) (by omega) | exact isW.gK (by assumption) (by omega) | exact isW.g1 (by assumption) | exact isW.g2 (by assumption) | exact isW.g3 (by assumption) | exact isI.gx (isW.i0 (by assumption)) | exact isI.gc (isW.i0 (by assumption)) | exact isI.gx (isW.i1 (by assumption)) | exact isI.gc (isW.i1 (by assumption)) | exact isI.gx (isW.i2 (by assumption)) | exact isI.gc (isW.i2 (by assumption)) | exact isI.gx (isW.i3 (by assumption)) | exact isI.gc (isW.i3 (by assumption)) | exact isI.gx (isW.i4 (by assumption)) | exact isI.gc (isW.i4 (by assumption)) | exact isI.gx (isW.i5 (by assumption)) | exact isI.gc (isW.i5 (by assumption)) | exact isR.gx (by assumption) | exact isRd.gx (by assumption) | exact isSp.gx (by assumption) | exact isI.gx (isR.i (by assumption)) | exact isI.gx (isRd.i (by assumption)) | exact isI.gc (isRd.i (by assumption)) | exact isI.gx (isSp.i (by assumption)) | exact isW.gx (isR.w (by assumption)) | exact isW.gF (isR.w (by assumption)) | fail "no such object") (by rfl) ?_
    refine rj_icmp_ge (pc := 9) (tgt := 29) dX9_readyTasks_9 (by decide) (by first | exact b01_r | exact bz_r | omega | (constructor <;> omega) | apply_assumption | (apply atF_r; assumption) | fail "no range") (by first | exact b01_r | exact bz_r | omega | (constructor <;> omega) | apply_assumption | (apply atF_r; assumption) | fail "no range") (fun c_9 => ?_) (fun c_9 => ?_)
    · refine r_iload_n (pc := 29) dX9_readyTasks_29 rfl ?_
      refine r_ireturn (pc := 30) .int dX9_readyTasks_30 rfl (by first | rfl | assumption) ?_
      obtain rfl : t = K := by omega
      exact ⟨rfl, rfl⟩
    · exfalso; omega
  | succ k ih =>
    intro t ht
    refine r_iload_n (pc := 4) dX9_readyTasks_4 rfl ?_
    refine r_aload_n (pc := 5) dX9_readyTasks_5 rfl (by first | rfl | exact isRefV_rf _) ?_
    refine r_getf (pc := 6) dX9_readyTasks_6 fX9_81 (by first | assumption | exact isI.gx (by assumption) | exact isI.gc (by assumption) | exact isW.gx (by assumption) | exact isW.gF (by assumption) | exact isW.gT (by assumption) (by omega) | exact isW.gS (by assumption) (by omega) | exact isW.gK (by assumption) (by omega) | exact isW.g1 (by assumption) | exact isW.g2 (by assumption) | exact isW.g3 (by assumption) | exact isI.gx (isW.i0 (by assumption)) | exact isI.gc (isW.i0 (by assumption)) | exact isI.gx (isW.i1 (by assumption)) | exact isI.gc (isW.i1 (by assumption)) | exact isI.gx (isW.i2 (by assumption)) | exact isI.gc (isW.i2 (by assumption)) | exact isI.gx (isW.i3 (by assumption)) | exact isI.gc (isW.i3 (by assumption)) | exact isI.gx (isW.i4 (by assumption)) | exact isI.gc (isW.i4 (by assumption)) | exact isI.gx (isW.i5 (by assumption)) | exact isI.gc (isW.i5 (by assumption)) | exact isR.gx (by assumption) | exact isRd.gx (by assumption) | exact isSp.gx (by assumption) | exact isI.gx (isR.i (by assumption)) | exact isI.gx (isRd.i (by assumption)) | exact isI.gc (isRd.i (by assumption)) | exact isI.gx (isSp.i (by assumption)) | exact isW.gx (isR.w (by assumption)) | exact isW.gF (isR.w (by assumption)) | fail "no such object") (by rfl) ?_
    refine rj_icmp_ge (pc := 9) (tgt := 29) dX9_readyTasks_9 (by decide) (by first | exact b01_r | exact bz_r | omega | (constructor <;> omega) | apply_assumption | (apply atF_r; assumption) | fail "no range") (by first | exact b01_r | exact bz_r | omega | (constructor <;> omega) | apply_assumption | (apply atF_r; assumption) | fail "no range") (fun c_9 => ?_) (fun c_9 => ?_)
    · refine r_iload_n (pc := 29) dX9_readyTasks_29 rfl ?_
      refine r_ireturn (pc := 30) .int dX9_readyTasks_30 rfl (by first | rfl | assumption) ?_
      exfalso; omega
    · refine r_aload_n (pc := 12) dX9_readyTasks_12 rfl (by first | rfl | exact isRefV_rf _) ?_
      refine r_iload_n (pc := 13) dX9_readyTasks_13 rfl ?_
      refine r_callV1 (pc := 14) dX9_readyTasks_14 qX9_isReady kX9_184 vX9_isReady (by first | assumption | exact isI.gx (by assumption) | exact isI.gc (by assumption) | exact isW.gx (by assumption) | exact isW.gF (by assumption) | exact isW.gT (by assumption) (by omega) | exact isW.gS (by assumption) (by omega) | exact isW.gK (by assumption) (by omega) | exact isW.g1 (by assumption) | exact isW.g2 (by assumption) | exact isW.g3 (by assumption) | exact isI.gx (isW.i0 (by assumption)) | exact isI.gc (isW.i0 (by assumption)) | exact isI.gx (isW.i1 (by assumption)) | exact isI.gc (isW.i1 (by assumption)) | exact isI.gx (isW.i2 (by assumption)) | exact isI.gc (isW.i2 (by assumption)) | exact isI.gx (isW.i3 (by assumption)) | exact isI.gc (isW.i3 (by assumption)) | exact isI.gx (isW.i4 (by assumption)) | exact isI.gc (isW.i4 (by assumption)) | exact isI.gx (isW.i5 (by assumption)) | exact isI.gc (isW.i5 (by assumption)) | exact isR.gx (by assumption) | exact isRd.gx (by assumption) | exact isSp.gx (by assumption) | exact isI.gx (isR.i (by assumption)) | exact isI.gx (isRd.i (by assumption)) | exact isI.gc (isRd.i (by assumption)) | exact isI.gx (isSp.i (by assumption)) | exact isW.gx (isR.w (by assumption)) | exact isW.gF (isR.w (by assumption)) | fail "no such object") rfl rfl (Nat.le_of_ble_eq_true rfl) (cn_isReady (d) hW hc (t := t) (by omega) (by omega)) (fun v_14 h_14 q_14 => ?_)
      obtain ⟨rfl, rfl⟩ := q_14
      refine rj_if_eq (pc := 17) (tgt := 23) dX9_readyTasks_17 (by decide) (by first | exact b01_r | exact bz_r | omega | (constructor <;> omega) | apply_assumption | (apply atF_r; assumption) | fail "no range") (fun c_17 => ?_) (fun c_17 => ?_)
      · try simp only [b01_0, bz_0, Classical.not_not] at c_17
        refine rj_iinc (pc := 23) dX9_readyTasks_23 (Nat.le_of_ble_eq_true rfl) rfl ?_
        dsimp only [lsSt, List.set, mLs, mEnt]
        refine r_goto (pc := 26) (tgt := 4) dX9_readyTasks_26 (by decide) ?_
        have z := ih (t + 1) (by omega)
        rw [show ((t + 1 : Nat) : Int) = (t : Int) + 1 by omega] at z
        rw [← cnt_f (p := ryB c) (n := t) (decide_eq_false (c_17))] at z
        rw [Int.add_zero] at z
        exact z
      · try simp only [b01_0, bz_0, Classical.not_not] at c_17
        refine rj_iinc (pc := 20) dX9_readyTasks_20 (Nat.le_of_ble_eq_true rfl) rfl ?_
        dsimp only [lsSt, List.set, mLs, mEnt]
        refine rj_iinc (pc := 23) dX9_readyTasks_23 (Nat.le_of_ble_eq_true rfl) rfl ?_
        dsimp only [lsSt, List.set, mLs, mEnt]
        refine r_goto (pc := 26) (tgt := 4) dX9_readyTasks_26 (by decide) ?_
        have z := ih (t + 1) (by omega)
        rw [show ((t + 1 : Nat) : Int) = (t : Int) + 1 by omega] at z
        rw [← cnt_t (p := ryB c) (n := t) (decide_eq_true (c_17))] at z
        exact z
end mg_86

section mg_85
set_option maxHeartbeats 4000000 in
set_option maxRecDepth 100000 in
theorem L_heldWithin {G : mG} {l : Launch} (d : Nat) {h : mH} {w : Nat} {c : Nat → Int} {C : Nat → Nat → Int} {nm : Nat → Int64} {g : Nat → Option Nat} (hW : isW h w c C nm g) (hc : ∀ q, InR (c q)) (hO : oOk c) {N : Nat} (hN : c 0 = (N : Int)) (hcap : N ≤ 90) {i : Int} (hi : InR i) : ∀ k t : Nat, t + k = N → RUN G l (d + 3) mX9_heldWithin 4 [some (.ref w), some (.int (J i)), some (.int (J (cnt (hwB c i) t))), some (.int (J (t : Int)))] [] h (fun v h' => v = some (.int (J (cnt (hwB c i) N))) ∧ h' = h) := by
  intro k
  induction k with
  | zero =>
    intro t ht
    refine r_iload_n (pc := 4) dX9_heldWithin_4 rfl ?_
    refine r_aload_n (pc := 5) dX9_heldWithin_5 rfl (by first | rfl | exact isRefV_rf _) ?_
    refine r_getf (pc := 6) dX9_heldWithin_6 fX9_71 (by first | assumption | exact isI.gx (by assumption) | exact isI.gc (by assumption) | exact isW.gx (by assumption) | exact isW.gF (by assumption) | exact isW.gT (by assumption) (by omega) | exact isW.gS (by assumption) (by omega) | exact isW.gK (by assumption) (by omega) | exact isW.g1 (by assumption) | exact isW.g2 (by assumption) | exact isW.g3 (by assumption) | exact isI.gx (isW.i0 (by assumption)) | exact isI.gc (isW.i0 (by assumption)) | exact isI.gx (isW.i1 (by assumption)) | exact isI.gc (isW.i1 (by assumption)) | exact isI.gx (isW.i2 (by assumption)) | exact isI.gc (isW.i2 (by assumption)) | exact isI.gx (isW.i3 (by assumption)) | exact isI.gc (isW.i3 (by assumption)) | exact isI.gx (isW.i4 (by assumption)) | exact isI.gc (isW.i4 (by assumption)) | exact isI.gx (isW.i5 (by assumption)) | exact isI.gc (isW.i5 (by assumption)) | exact isR.gx (by assumption) | exact isRd.gx (by assumption) | exact isSp.gx (by assumption) | exact isI.gx (isR.i (by assumption)) | exact isI.gx (isRd.i (by assumption)) | exact isI.gc (isRd.i (by assumption)) | exact isI.gx (isSp.i (by assumption)) | exact isW.gx (isR.w (by assumption)) | exact isW.gF (isR.w (by assumption)) | fail "no such object") (by rfl) ?_
    refine rj_icmp_ge (pc := 9) (tgt := 42) dX9_heldWithin_9 (by decide) (by first | exact b01_r | exact bz_r | omega | (constructor <;> omega) | apply_assumption | (apply atF_r; assumption) | fail "no range") (by first | exact b01_r | exact bz_r | omega | (constructor <;> omega) | apply_assumption | (apply atF_r; assumption) | fail "no range") (fun c_9 => ?_) (fun c_9 => ?_)
    · refine r_iload_n (pc := 42) dX9_heldWithin_42 rfl ?_
      refine r_ireturn (pc := 43) .int dX9_heldWithin_43 rfl (by first | rfl | assumption) ?_
      obtain rfl : t = N := by omega
      exact ⟨rfl, rfl⟩
    · exfalso; omega
  | succ k ih =>
    intro t ht
    refine r_iload_n (pc := 4) dX9_heldWithin_4 rfl ?_
    refine r_aload_n (pc := 5) dX9_heldWithin_5 rfl (by first | rfl | exact isRefV_rf _) ?_
    refine r_getf (pc := 6) dX9_heldWithin_6 fX9_71 (by first | assumption | exact isI.gx (by assumption) | exact isI.gc (by assumption) | exact isW.gx (by assumption) | exact isW.gF (by assumption) | exact isW.gT (by assumption) (by omega) | exact isW.gS (by assumption) (by omega) | exact isW.gK (by assumption) (by omega) | exact isW.g1 (by assumption) | exact isW.g2 (by assumption) | exact isW.g3 (by assumption) | exact isI.gx (isW.i0 (by assumption)) | exact isI.gc (isW.i0 (by assumption)) | exact isI.gx (isW.i1 (by assumption)) | exact isI.gc (isW.i1 (by assumption)) | exact isI.gx (isW.i2 (by assumption)) | exact isI.gc (isW.i2 (by assumption)) | exact isI.gx (isW.i3 (by assumption)) | exact isI.gc (isW.i3 (by assumption)) | exact isI.gx (isW.i4 (by assumption)) | exact isI.gc (isW.i4 (by assumption)) | exact isI.gx (isW.i5 (by assumption)) | exact isI.gc (isW.i5 (by assumption)) | exact isR.gx (by assumption) | exact isRd.gx (by assumption) | exact isSp.gx (by assumption) | exact isI.gx (isR.i (by assumption)) | exact isI.gx (isRd.i (by assumption)) | exact isI.gc (isRd.i (by assumption)) | exact isI.gx (isSp.i (by assumption)) | exact isW.gx (isR.w (by assumption)) | exact isW.gF (isR.w (by assumption)) | fail "no such object") (by rfl) ?_
    refine rj_icmp_ge (pc := 9) (tgt := 42) dX9_heldWithin_9 (by decide) (by first | exact b01_r | exact bz_r | omega | (constructor <;> omega) | apply_assumption | (apply atF_r; assumption) | fail "no range") (by first | exact b01_r | exact bz_r | omega | (constructor <;> omega) | apply_assumption | (apply atF_r; assumption) | fail "no range") (fun c_9 => ?_) (fun c_9 => ?_)
    · refine r_iload_n (pc := 42) dX9_heldWithin_42 rfl ?_
      refine r_ireturn (pc := 43) .int dX9_heldWithin_43 rfl (by first | rfl | assumption) ?_
      exfalso; omega
    · refine r_aload_n (pc := 12) dX9_heldWithin_12 rfl (by first | rfl | exact isRefV_rf _) ?_
      refine r_iload_n (pc := 13) dX9_heldWithin_13 rfl ?_
      refine r_callV1 (pc := 14) dX9_heldWithin_14 qX9_isHeld kX9_157 vX9_isHeld (by first | assumption | exact isI.gx (by assumption) | exact isI.gc (by assumption) | exact isW.gx (by assumption) | exact isW.gF (by assumption) | exact isW.gT (by assumption) (by omega) | exact isW.gS (by assumption) (by omega) | exact isW.gK (by assumption) (by omega) | exact isW.g1 (by assumption) | exact isW.g2 (by assumption) | exact isW.g3 (by assumption) | exact isI.gx (isW.i0 (by assumption)) | exact isI.gc (isW.i0 (by assumption)) | exact isI.gx (isW.i1 (by assumption)) | exact isI.gc (isW.i1 (by assumption)) | exact isI.gx (isW.i2 (by assumption)) | exact isI.gc (isW.i2 (by assumption)) | exact isI.gx (isW.i3 (by assumption)) | exact isI.gc (isW.i3 (by assumption)) | exact isI.gx (isW.i4 (by assumption)) | exact isI.gc (isW.i4 (by assumption)) | exact isI.gx (isW.i5 (by assumption)) | exact isI.gc (isW.i5 (by assumption)) | exact isR.gx (by assumption) | exact isRd.gx (by assumption) | exact isSp.gx (by assumption) | exact isI.gx (isR.i (by assumption)) | exact isI.gx (isRd.i (by assumption)) | exact isI.gc (isRd.i (by assumption)) | exact isI.gx (isSp.i (by assumption)) | exact isW.gx (isR.w (by assumption)) | exact isW.gF (isR.w (by assumption)) | fail "no such object") rfl rfl (Nat.le_of_ble_eq_true rfl) (cn_isHeld _ hW hc (t := t) (by omega) (by omega)) (fun v_14 h_14 q_14 => ?_)
      obtain ⟨rfl, rfl⟩ := q_14
      refine rj_if_eq (pc := 17) (tgt := 36) dX9_heldWithin_17 (by decide) (by first | exact b01_r | exact bz_r | omega | (constructor <;> omega) | apply_assumption | (apply atF_r; assumption) | fail "no range") (fun c_17 => ?_) (fun c_17 => ?_)
      · try simp only [b01_0, bz_0, Classical.not_not] at c_17
        refine rj_iinc (pc := 36) dX9_heldWithin_36 (Nat.le_of_ble_eq_true rfl) rfl ?_
        dsimp only [lsSt, List.set, mLs, mEnt]
        refine r_goto (pc := 39) (tgt := 4) dX9_heldWithin_39 (by decide) ?_
        have z := ih (t + 1) (by omega)
        rw [show ((t + 1 : Nat) : Int) = (t : Int) + 1 by omega] at z
        rw [← cnt_f (p := hwB c i) (n := t) (decide_eq_false (fun g => c_17 g.1))] at z
        rw [Int.add_zero] at z
        exact z
      · try simp only [b01_0, bz_0, Classical.not_not] at c_17
        refine r_aload_n (pc := 20) dX9_heldWithin_20 rfl (by first | rfl | exact isRefV_rf _) ?_
        refine r_aload_n (pc := 21) dX9_heldWithin_21 rfl (by first | rfl | exact isRefV_rf _) ?_
        refine r_iload_n (pc := 22) dX9_heldWithin_22 rfl ?_
        refine r_callV1 (pc := 23) dX9_heldWithin_23 qX9_ownerOf kX9_151 vX9_ownerOf (by first | assumption | exact isI.gx (by assumption) | exact isI.gc (by assumption) | exact isW.gx (by assumption) | exact isW.gF (by assumption) | exact isW.gT (by assumption) (by omega) | exact isW.gS (by assumption) (by omega) | exact isW.gK (by assumption) (by omega) | exact isW.g1 (by assumption) | exact isW.g2 (by assumption) | exact isW.g3 (by assumption) | exact isI.gx (isW.i0 (by assumption)) | exact isI.gc (isW.i0 (by assumption)) | exact isI.gx (isW.i1 (by assumption)) | exact isI.gc (isW.i1 (by assumption)) | exact isI.gx (isW.i2 (by assumption)) | exact isI.gc (isW.i2 (by assumption)) | exact isI.gx (isW.i3 (by assumption)) | exact isI.gc (isW.i3 (by assumption)) | exact isI.gx (isW.i4 (by assumption)) | exact isI.gc (isW.i4 (by assumption)) | exact isI.gx (isW.i5 (by assumption)) | exact isI.gc (isW.i5 (by assumption)) | exact isR.gx (by assumption) | exact isRd.gx (by assumption) | exact isSp.gx (by assumption) | exact isI.gx (isR.i (by assumption)) | exact isI.gx (isRd.i (by assumption)) | exact isI.gc (isRd.i (by assumption)) | exact isI.gx (isSp.i (by assumption)) | exact isW.gx (isR.w (by assumption)) | exact isW.gF (isR.w (by assumption)) | fail "no such object") rfl rfl (Nat.le_of_ble_eq_true rfl) (cn_ownerOf _ hW hc (t := t) (by omega) (by omega)) (fun v_23 h_23 q_23 => ?_)
        obtain ⟨rfl, rfl⟩ := q_23
        refine r_iload_n (pc := 26) dX9_heldWithin_26 rfl ?_
        refine r_callV2 (pc := 27) dX9_heldWithin_27 qX9_isWithin kX9_164 vX9_isWithin (by first | assumption | exact isI.gx (by assumption) | exact isI.gc (by assumption) | exact isW.gx (by assumption) | exact isW.gF (by assumption) | exact isW.gT (by assumption) (by omega) | exact isW.gS (by assumption) (by omega) | exact isW.gK (by assumption) (by omega) | exact isW.g1 (by assumption) | exact isW.g2 (by assumption) | exact isW.g3 (by assumption) | exact isI.gx (isW.i0 (by assumption)) | exact isI.gc (isW.i0 (by assumption)) | exact isI.gx (isW.i1 (by assumption)) | exact isI.gc (isW.i1 (by assumption)) | exact isI.gx (isW.i2 (by assumption)) | exact isI.gc (isW.i2 (by assumption)) | exact isI.gx (isW.i3 (by assumption)) | exact isI.gc (isW.i3 (by assumption)) | exact isI.gx (isW.i4 (by assumption)) | exact isI.gc (isW.i4 (by assumption)) | exact isI.gx (isW.i5 (by assumption)) | exact isI.gc (isW.i5 (by assumption)) | exact isR.gx (by assumption) | exact isRd.gx (by assumption) | exact isSp.gx (by assumption) | exact isI.gx (isR.i (by assumption)) | exact isI.gx (isRd.i (by assumption)) | exact isI.gc (isRd.i (by assumption)) | exact isI.gx (isSp.i (by assumption)) | exact isW.gx (isR.w (by assumption)) | exact isW.gF (isR.w (by assumption)) | fail "no such object") rfl rfl (Nat.le_of_ble_eq_true rfl) (by have z := hO (t : Int); rw [ownF_t (by omega) (by omega)] at z; exact cq_isWithin d hW hc hO z.1 z.2 hi) (fun v_27 h_27 q_27 => ?_)
        obtain ⟨rfl, rfl⟩ := q_27
        refine rj_if_eq (pc := 30) (tgt := 36) dX9_heldWithin_30 (by decide) (by first | exact b01_r | exact bz_r | omega | (constructor <;> omega) | apply_assumption | (apply atF_r; assumption) | fail "no range") (fun c_30 => ?_) (fun c_30 => ?_)
        · try simp only [b01_0, bz_0, Classical.not_not] at c_30
          refine rj_iinc (pc := 36) dX9_heldWithin_36 (Nat.le_of_ble_eq_true rfl) rfl ?_
          dsimp only [lsSt, List.set, mLs, mEnt]
          refine r_goto (pc := 39) (tgt := 4) dX9_heldWithin_39 (by decide) ?_
          have z := ih (t + 1) (by omega)
          rw [show ((t + 1 : Nat) : Int) = (t : Int) + 1 by omega] at z
          rw [← cnt_f (p := hwB c i) (n := t) (decide_eq_false (fun g => c_30 g.2))] at z
          rw [Int.add_zero] at z
          exact z
        · try simp only [b01_0, bz_0, Classical.not_not] at c_30
          refine rj_iinc (pc := 33) dX9_heldWithin_33 (Nat.le_of_ble_eq_true rfl) rfl ?_
          dsimp only [lsSt, List.set, mLs, mEnt]
          refine rj_iinc (pc := 36) dX9_heldWithin_36 (Nat.le_of_ble_eq_true rfl) rfl ?_
          dsimp only [lsSt, List.set, mLs, mEnt]
          refine r_goto (pc := 39) (tgt := 4) dX9_heldWithin_39 (by decide) ?_
          have z := ih (t + 1) (by omega)
          rw [show ((t + 1 : Nat) : Int) = (t : Int) + 1 by omega] at z
          rw [← cnt_t (p := hwB c i) (n := t) (decide_eq_true (⟨c_17, c_30⟩))] at z
          exact z
end mg_85

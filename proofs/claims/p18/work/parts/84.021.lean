section mg_86
set_option maxHeartbeats 4000000 in
set_option maxRecDepth 100000 in
theorem L_heldAhead {G : mG} {l : Launch} (d : Nat) {h : mH} {w : Nat} {c : Nat → Int} {C : Nat → Nat → Int} {nm : Nat → Int64} {g : Nat → Option Nat} (hW : isW h w c C nm g) (hc : ∀ q, InR (c q)) {N : Nat} (hN : c 0 = (N : Int)) (hcap : N ≤ 90) {y : Int64} : ∀ k t : Nat, t + k = N → RUN G l (d + 2) mX9_heldAhead 5 [some (.ref w), some (.long y), none, some (.int (J (cnt (haB c nm y) t))), some (.int (J (t : Int)))] [] h (fun v h' => v = some (.int (J (cnt (haB c nm y) N))) ∧ h' = h) := by
  intro k
  induction k with
  | zero =>
    intro t ht
    refine r_iload (pc := 5) dX9_heldAhead_5 rfl ?_
    refine r_aload_n (pc := 7) dX9_heldAhead_7 rfl (by first | rfl | exact isRefV_rf _) ?_
    refine r_getf (pc := 8) dX9_heldAhead_8 fX9_71 (by first | assumption | exact isI.gx (by assumption) | exact isI.gc (by assumption) | exact isW.gx (by assumption) | exact isW.gF (by assumption) | exact isW.gT (by assumption) (by omega) | exact isW.gS (by assumption) (by omega) | exact isW.gK (by assumption) (by omega) | exact isW.g1 (by assumption) | exact isW.g2 (by assumption) | exact isW.g3 (by assumption) | exact isI.gx (isW.i0 (by assumption)) | exact isI.gc (isW.i0 (by assumption)) | exact isI.gx (isW.i1 (by assumption)) | exact isI.gc (isW.i1 (by assumption)) | exact isI.gx (isW.i2 (by assumption)) | exact isI.gc (isW.i2 (by assumption)) | exact isI.gx (isW.i3 (by assumption)) | exact isI.gc (isW.i3 (by assumption)) | exact isI.gx (isW.i4 (by assumption)) | exact isI.gc (isW.i4 (by assumption)) | exact isI.gx (isW.i5 (by assumption)) | exact isI.gc (isW.i5 (by assumption)) | exact isR.gx (by assumption) | exact isRd.gx (by assumption) | exact isSp.gx (by assumption) | exact isI.gx (isR.i (by assumption)) | exact isI.gx (isRd.i (by assumption)) | exact isI.gc (isRd.i (by assumption)) | exact isI.gx (isSp.i (by assumption)) | exact isW.gx (isR.w (by assumption)) | exact isW.gF (isR.w (by assumption)) | fail "no such object") (by rfl) ?_
    refine rj_icmp_ge (pc := 11) (tgt := 43) dX9_heldAhead_11 (by decide) (by first | exact b01_r | exact bz_r | omega | (constructor <;> omega) | apply_assumption | (apply atF_r; assumption) | fail "no range") (by first | exact b01_r | exact bz_r | omega | (constructor <;> omega) | apply_assumption | (apply atF_r; assumption) | fail "no range") (fun c_11 => ?_) (fun c_11 => ?_)
    · refine r_iload_n (pc := 43) dX9_heldAhead_43 rfl ?_
      refine r_ireturn (pc := 44) .int dX9_heldAhead_44 rfl (by first | rfl | assumption) ?_
      obtain rfl : t = N := by omega
      exact ⟨rfl, rfl⟩
    · exfalso; omega
  | succ k ih =>
    intro t ht
    refine r_iload (pc := 5) dX9_heldAhead_5 rfl ?_
    refine r_aload_n (pc := 7) dX9_heldAhead_7 rfl (by first | rfl | exact isRefV_rf _) ?_
    refine r_getf (pc := 8) dX9_heldAhead_8 fX9_71 (by first | assumption | exact isI.gx (by assumption) | exact isI.gc (by assumption) | exact isW.gx (by assumption) | exact isW.gF (by assumption) | exact isW.gT (by assumption) (by omega) | exact isW.gS (by assumption) (by omega) | exact isW.gK (by assumption) (by omega) | exact isW.g1 (by assumption) | exact isW.g2 (by assumption) | exact isW.g3 (by assumption) | exact isI.gx (isW.i0 (by assumption)) | exact isI.gc (isW.i0 (by assumption)) | exact isI.gx (isW.i1 (by assumption)) | exact isI.gc (isW.i1 (by assumption)) | exact isI.gx (isW.i2 (by assumption)) | exact isI.gc (isW.i2 (by assumption)) | exact isI.gx (isW.i3 (by assumption)) | exact isI.gc (isW.i3 (by assumption)) | exact isI.gx (isW.i4 (by assumption)) | exact isI.gc (isW.i4 (by assumption)) | exact isI.gx (isW.i5 (by assumption)) | exact isI.gc (isW.i5 (by assumption)) | exact isR.gx (by assumption) | exact isRd.gx (by assumption) | exact isSp.gx (by assumption) | exact isI.gx (isR.i (by assumption)) | exact isI.gx (isRd.i (by assumption)) | exact isI.gc (isRd.i (by assumption)) | exact isI.gx (isSp.i (by assumption)) | exact isW.gx (isR.w (by assumption)) | exact isW.gF (isR.w (by assumption)) | fail "no such object") (by rfl) ?_
    refine rj_icmp_ge (pc := 11) (tgt := 43) dX9_heldAhead_11 (by decide) (by first | exact b01_r | exact bz_r | omega | (constructor <;> omega) | apply_assumption | (apply atF_r; assumption) | fail "no range") (by first | exact b01_r | exact bz_r | omega | (constructor <;> omega) | apply_assumption | (apply atF_r; assumption) | fail "no range") (fun c_11 => ?_) (fun c_11 => ?_)
    · refine r_iload_n (pc := 43) dX9_heldAhead_43 rfl ?_
      refine r_ireturn (pc := 44) .int dX9_heldAhead_44 rfl (by first | rfl | assumption) ?_
      exfalso; omega
    · refine r_aload_n (pc := 14) dX9_heldAhead_14 rfl (by first | rfl | exact isRefV_rf _) ?_
      refine r_iload (pc := 15) dX9_heldAhead_15 rfl ?_
      refine r_callV1 (pc := 17) dX9_heldAhead_17 qX9_isHeld kX9_157 vX9_isHeld (by first | assumption | exact isI.gx (by assumption) | exact isI.gc (by assumption) | exact isW.gx (by assumption) | exact isW.gF (by assumption) | exact isW.gT (by assumption) (by omega) | exact isW.gS (by assumption) (by omega) | exact isW.gK (by assumption) (by omega) | exact isW.g1 (by assumption) | exact isW.g2 (by assumption) | exact isW.g3 (by assumption) | exact isI.gx (isW.i0 (by assumption)) | exact isI.gc (isW.i0 (by assumption)) | exact isI.gx (isW.i1 (by assumption)) | exact isI.gc (isW.i1 (by assumption)) | exact isI.gx (isW.i2 (by assumption)) | exact isI.gc (isW.i2 (by assumption)) | exact isI.gx (isW.i3 (by assumption)) | exact isI.gc (isW.i3 (by assumption)) | exact isI.gx (isW.i4 (by assumption)) | exact isI.gc (isW.i4 (by assumption)) | exact isI.gx (isW.i5 (by assumption)) | exact isI.gc (isW.i5 (by assumption)) | exact isR.gx (by assumption) | exact isRd.gx (by assumption) | exact isSp.gx (by assumption) | exact isI.gx (isR.i (by assumption)) | exact isI.gx (isRd.i (by assumption)) | exact isI.gc (isRd.i (by assumption)) | exact isI.gx (isSp.i (by assumption)) | exact isW.gx (isR.w (by assumption)) | exact isW.gF (isR.w (by assumption)) | fail "no such object") rfl rfl (Nat.le_of_ble_eq_true rfl) (cn_isHeld (d) hW hc (t := t) (by omega) (by omega)) (fun v_17 h_17 q_17 => ?_)
      obtain ⟨rfl, rfl⟩ := q_17
      refine rj_if_eq (pc := 20) (tgt := 37) dX9_heldAhead_20 (by decide) (by first | exact b01_r | exact bz_r | omega | (constructor <;> omega) | apply_assumption | (apply atF_r; assumption) | fail "no range") (fun c_20 => ?_) (fun c_20 => ?_)
      · try simp only [b01_0, bz_0, Classical.not_not] at c_20
        refine rj_iinc (pc := 37) dX9_heldAhead_37 (Nat.le_of_ble_eq_true rfl) rfl ?_
        dsimp only [lsSt, List.set, mLs, mEnt]
        refine r_goto (pc := 40) (tgt := 5) dX9_heldAhead_40 (by decide) ?_
        have z := ih (t + 1) (by omega)
        rw [show ((t + 1 : Nat) : Int) = (t : Int) + 1 by omega] at z
        rw [← cnt_f (p := haB c nm y) (n := t) (decide_eq_false (fun g => c_20 g.1))] at z
        rw [Int.add_zero] at z
        exact z
      · try simp only [b01_0, bz_0, Classical.not_not] at c_20
        refine r_aload_n (pc := 23) dX9_heldAhead_23 rfl (by first | rfl | exact isRefV_rf _) ?_
        refine r_iload (pc := 24) dX9_heldAhead_24 rfl ?_
        refine r_callV1 (pc := 26) dX9_heldAhead_26 qX9_nameOf kX9_168 vX9_nameOf (by first | assumption | exact isI.gx (by assumption) | exact isI.gc (by assumption) | exact isW.gx (by assumption) | exact isW.gF (by assumption) | exact isW.gT (by assumption) (by omega) | exact isW.gS (by assumption) (by omega) | exact isW.gK (by assumption) (by omega) | exact isW.g1 (by assumption) | exact isW.g2 (by assumption) | exact isW.g3 (by assumption) | exact isI.gx (isW.i0 (by assumption)) | exact isI.gc (isW.i0 (by assumption)) | exact isI.gx (isW.i1 (by assumption)) | exact isI.gc (isW.i1 (by assumption)) | exact isI.gx (isW.i2 (by assumption)) | exact isI.gc (isW.i2 (by assumption)) | exact isI.gx (isW.i3 (by assumption)) | exact isI.gc (isW.i3 (by assumption)) | exact isI.gx (isW.i4 (by assumption)) | exact isI.gc (isW.i4 (by assumption)) | exact isI.gx (isW.i5 (by assumption)) | exact isI.gc (isW.i5 (by assumption)) | exact isR.gx (by assumption) | exact isRd.gx (by assumption) | exact isSp.gx (by assumption) | exact isI.gx (isR.i (by assumption)) | exact isI.gx (isRd.i (by assumption)) | exact isI.gc (isRd.i (by assumption)) | exact isI.gx (isSp.i (by assumption)) | exact isW.gx (isR.w (by assumption)) | exact isW.gF (isR.w (by assumption)) | fail "no such object") rfl rfl (Nat.le_of_ble_eq_true rfl) (cn_nameOf (d) hW hc (t := t) (by omega) (by omega)) (fun v_26 h_26 q_26 => ?_)
        obtain ⟨rfl, rfl⟩ := q_26
        refine r_lload_n (pc := 29) dX9_heldAhead_29 rfl ?_
        refine rj_lcmpE (pc := 30) dX9_heldAhead_30 ?_
        have rr := lcV_r (x := nm t) (y := y)
        refine rj_if_ge (pc := 31) (tgt := 37) dX9_heldAhead_31 (by decide) (by first | exact b01_r | exact bz_r | omega | (constructor <;> omega) | apply_assumption | (apply atF_r; assumption) | fail "no range") (fun c_31 => ?_) (fun c_31 => ?_)
        · refine rj_iinc (pc := 37) dX9_heldAhead_37 (Nat.le_of_ble_eq_true rfl) rfl ?_
          dsimp only [lsSt, List.set, mLs, mEnt]
          refine r_goto (pc := 40) (tgt := 5) dX9_heldAhead_40 (by decide) ?_
          have z := ih (t + 1) (by omega)
          rw [show ((t + 1 : Nat) : Int) = (t : Int) + 1 by omega] at z
          rw [← cnt_f (p := haB c nm y) (n := t) (decide_eq_false (fun g => absurd (lcV_n.mpr g.2) (by omega)))] at z
          rw [Int.add_zero] at z
          exact z
        · refine rj_iinc (pc := 34) dX9_heldAhead_34 (Nat.le_of_ble_eq_true rfl) rfl ?_
          dsimp only [lsSt, List.set, mLs, mEnt]
          refine rj_iinc (pc := 37) dX9_heldAhead_37 (Nat.le_of_ble_eq_true rfl) rfl ?_
          dsimp only [lsSt, List.set, mLs, mEnt]
          refine r_goto (pc := 40) (tgt := 5) dX9_heldAhead_40 (by decide) ?_
          have z := ih (t + 1) (by omega)
          rw [show ((t + 1 : Nat) : Int) = (t : Int) + 1 by omega] at z
          rw [← cnt_t (p := haB c nm y) (n := t) (decide_eq_true (⟨c_20, lcV_n.mp (by omega)⟩))] at z
          exact z
end mg_86

section mg_85
set_option maxHeartbeats 4000000 in
set_option maxRecDepth 100000 in
theorem L_youngestWithin {G : mG} {l : Launch} (d : Nat) {h : mH} {w : Nat} {c : Nat → Int} {C : Nat → Nat → Int} {nm : Nat → Int64} {g : Nat → Option Nat} (hW : isW h w c C nm g) (hc : ∀ q, InR (c q)) (hO : oOk c) {N : Nat} (hN : c 0 = (N : Int)) (hcap : N ≤ 90) {i : Int} (hi : InR i) : ∀ t : Nat, t ≤ N → RUN G l (d + 3) mX9_youngestWithin 7 [some (.ref w), some (.int (J i)), some (.int (J ((t : Int) - 1)))] [] h (fun v h' => v = some (.int (J (ywL c i t))) ∧ h' = h) := by
  intro t
  induction t with
  | zero =>
    intro ht
    refine r_iload_n (pc := 7) dX9_youngestWithin_7 rfl ?_
    refine rj_if_lt (pc := 8) (tgt := 40) dX9_youngestWithin_8 (by decide) (by first | exact b01_r | exact bz_r | omega | (constructor <;> omega) | apply_assumption | (apply atF_r; assumption) | fail "no range") (fun c_8 => ?_) (fun c_8 => ?_)
    · refine rj_bipush (pc := 40) dX9_youngestWithin_40 (by decide +kernel) ?_
      refine r_ireturn (pc := 42) .int dX9_youngestWithin_42 rfl (by first | rfl | assumption) ?_
      exact ⟨rfl, rfl⟩
    · exfalso; omega
  | succ t ih =>
    intro ht
    have e1 : ((t + 1 : Nat) : Int) - 1 = (t : Int) := by omega
    rw [e1]
    refine r_iload_n (pc := 7) dX9_youngestWithin_7 rfl ?_
    refine rj_if_lt (pc := 8) (tgt := 40) dX9_youngestWithin_8 (by decide) (by first | exact b01_r | exact bz_r | omega | (constructor <;> omega) | apply_assumption | (apply atF_r; assumption) | fail "no range") (fun c_8 => ?_) (fun c_8 => ?_)
    · refine rj_bipush (pc := 40) dX9_youngestWithin_40 (by decide +kernel) ?_
      refine r_ireturn (pc := 42) .int dX9_youngestWithin_42 rfl (by first | rfl | assumption) ?_
      first | (exfalso; omega) | exact ⟨by rw [ywL, if_pos (show hwB c i t = true from decide_eq_true ⟨c_16, c_29⟩)], rfl⟩
    · refine r_aload_n (pc := 11) dX9_youngestWithin_11 rfl (by first | rfl | exact isRefV_rf _) ?_
      refine r_iload_n (pc := 12) dX9_youngestWithin_12 rfl ?_
      refine r_callV1 (pc := 13) dX9_youngestWithin_13 qX9_isHeld kX9_157 vX9_isHeld (by first | assumption | exact isI.gx (by assumption) | exact isI.gc (by assumption) | exact isW.gx (by assumption) | exact isW.gF (by assumption) | exact isW.gT (by assumption) (by omega) | exact isW.gS (by assumption) (by omega) | exact isW.gK (by assumption) (by omega) | exact isW.g1 (by assumption) | exact isW.g2 (by assumption) | exact isW.g3 (by assumption) | exact isI.gx (isW.i0 (by assumption)) | exact isI.gc (isW.i0 (by assumption)) | exact isI.gx (isW.i1 (by assumption)) | exact isI.gc (isW.i1 (by assumption)) | exact isI.gx (isW.i2 (by assumption)) | exact isI.gc (isW.i2 (by assumption)) | exact isI.gx (isW.i3 (by assumption)) | exact isI.gc (isW.i3 (by assumption)) | exact isI.gx (isW.i4 (by assumption)) | exact isI.gc (isW.i4 (by assumption)) | exact isI.gx (isW.i5 (by assumption)) | exact isI.gc (isW.i5 (by assumption)) | exact isR.gx (by assumption) | exact isRd.gx (by assumption) | exact isSp.gx (by assumption) | exact isI.gx (isR.i (by assumption)) | exact isI.gx (isRd.i (by assumption)) | exact isI.gc (isRd.i (by assumption)) | exact isI.gx (isSp.i (by assumption)) | exact isW.gx (isR.w (by assumption)) | exact isW.gF (isR.w (by assumption)) | fail "no such object") rfl rfl (Nat.le_of_ble_eq_true rfl) (cn_isHeld _ hW hc (t := t) (by omega) (by omega)) (fun v_13 h_13 q_13 => ?_)
      obtain ⟨rfl, rfl⟩ := q_13
      refine rj_if_eq (pc := 16) (tgt := 34) dX9_youngestWithin_16 (by decide) (by first | exact b01_r | exact bz_r | omega | (constructor <;> omega) | apply_assumption | (apply atF_r; assumption) | fail "no range") (fun c_16 => ?_) (fun c_16 => ?_)
      · try simp only [b01_0, bz_0, Classical.not_not] at c_16
        refine rj_iinc (pc := 34) dX9_youngestWithin_34 (Nat.le_of_ble_eq_true rfl) rfl ?_
        dsimp only [lsSt, List.set, mLs, mEnt]
        refine r_goto (pc := 37) (tgt := 7) dX9_youngestWithin_37 (by decide) ?_
        have y := ih (by omega)
        rw [show (t : Int) - 1 = (t : Int) + -1 by omega] at y
        rw [ywL, if_neg (by unfold hwB; rw [decide_eq_true_eq]; exact fun g => c_16 g.1)]
        exact y
      · try simp only [b01_0, bz_0, Classical.not_not] at c_16
        refine r_aload_n (pc := 19) dX9_youngestWithin_19 rfl (by first | rfl | exact isRefV_rf _) ?_
        refine r_aload_n (pc := 20) dX9_youngestWithin_20 rfl (by first | rfl | exact isRefV_rf _) ?_
        refine r_iload_n (pc := 21) dX9_youngestWithin_21 rfl ?_
        refine r_callV1 (pc := 22) dX9_youngestWithin_22 qX9_ownerOf kX9_151 vX9_ownerOf (by first | assumption | exact isI.gx (by assumption) | exact isI.gc (by assumption) | exact isW.gx (by assumption) | exact isW.gF (by assumption) | exact isW.gT (by assumption) (by omega) | exact isW.gS (by assumption) (by omega) | exact isW.gK (by assumption) (by omega) | exact isW.g1 (by assumption) | exact isW.g2 (by assumption) | exact isW.g3 (by assumption) | exact isI.gx (isW.i0 (by assumption)) | exact isI.gc (isW.i0 (by assumption)) | exact isI.gx (isW.i1 (by assumption)) | exact isI.gc (isW.i1 (by assumption)) | exact isI.gx (isW.i2 (by assumption)) | exact isI.gc (isW.i2 (by assumption)) | exact isI.gx (isW.i3 (by assumption)) | exact isI.gc (isW.i3 (by assumption)) | exact isI.gx (isW.i4 (by assumption)) | exact isI.gc (isW.i4 (by assumption)) | exact isI.gx (isW.i5 (by assumption)) | exact isI.gc (isW.i5 (by assumption)) | exact isR.gx (by assumption) | exact isRd.gx (by assumption) | exact isSp.gx (by assumption) | exact isI.gx (isR.i (by assumption)) | exact isI.gx (isRd.i (by assumption)) | exact isI.gc (isRd.i (by assumption)) | exact isI.gx (isSp.i (by assumption)) | exact isW.gx (isR.w (by assumption)) | exact isW.gF (isR.w (by assumption)) | fail "no such object") rfl rfl (Nat.le_of_ble_eq_true rfl) (cn_ownerOf _ hW hc (t := t) (by omega) (by omega)) (fun v_22 h_22 q_22 => ?_)
        obtain ⟨rfl, rfl⟩ := q_22
        refine r_iload_n (pc := 25) dX9_youngestWithin_25 rfl ?_
        refine r_callV2 (pc := 26) dX9_youngestWithin_26 qX9_isWithin kX9_164 vX9_isWithin (by first | assumption | exact isI.gx (by assumption) | exact isI.gc (by assumption) | exact isW.gx (by assumption) | exact isW.gF (by assumption) | exact isW.gT (by assumption) (by omega) | exact isW.gS (by assumption) (by omega) | exact isW.gK (by assumption) (by omega) | exact isW.g1 (by assumption) | exact isW.g2 (by assumption) | exact isW.g3 (by assumption) | exact isI.gx (isW.i0 (by assumption)) | exact isI.gc (isW.i0 (by assumption)) | exact isI.gx (isW.i1 (by assumption)) | exact isI.gc (isW.i1 (by assumption)) | exact isI.gx (isW.i2 (by assumption)) | exact isI.gc (isW.i2 (by assumption)) | exact isI.gx (isW.i3 (by assumption)) | exact isI.gc (isW.i3 (by assumption)) | exact isI.gx (isW.i4 (by assumption)) | exact isI.gc (isW.i4 (by assumption)) | exact isI.gx (isW.i5 (by assumption)) | exact isI.gc (isW.i5 (by assumption)) | exact isR.gx (by assumption) | exact isRd.gx (by assumption) | exact isSp.gx (by assumption) | exact isI.gx (isR.i (by assumption)) | exact isI.gx (isRd.i (by assumption)) | exact isI.gc (isRd.i (by assumption)) | exact isI.gx (isSp.i (by assumption)) | exact isW.gx (isR.w (by assumption)) | exact isW.gF (isR.w (by assumption)) | fail "no such object") rfl rfl (Nat.le_of_ble_eq_true rfl) (by have z := hO (t : Int); rw [ownF_t (by omega) (by omega)] at z; exact cq_isWithin d hW hc hO z.1 z.2 hi) (fun v_26 h_26 q_26 => ?_)
        obtain ⟨rfl, rfl⟩ := q_26
        refine rj_if_eq (pc := 29) (tgt := 34) dX9_youngestWithin_29 (by decide) (by first | exact b01_r | exact bz_r | omega | (constructor <;> omega) | apply_assumption | (apply atF_r; assumption) | fail "no range") (fun c_29 => ?_) (fun c_29 => ?_)
        · try simp only [b01_0, bz_0, Classical.not_not] at c_29
          refine rj_iinc (pc := 34) dX9_youngestWithin_34 (Nat.le_of_ble_eq_true rfl) rfl ?_
          dsimp only [lsSt, List.set, mLs, mEnt]
          refine r_goto (pc := 37) (tgt := 7) dX9_youngestWithin_37 (by decide) ?_
          have y := ih (by omega)
          rw [show (t : Int) - 1 = (t : Int) + -1 by omega] at y
          rw [ywL, if_neg (by unfold hwB; rw [decide_eq_true_eq]; exact fun g => c_29 g.2)]
          exact y
        · try simp only [b01_0, bz_0, Classical.not_not] at c_29
          refine r_iload_n (pc := 32) dX9_youngestWithin_32 rfl ?_
          refine r_ireturn (pc := 33) .int dX9_youngestWithin_33 rfl (by first | rfl | assumption) ?_
          first | (exfalso; omega) | exact ⟨by rw [ywL, if_pos (show hwB c i t = true from decide_eq_true ⟨c_16, c_29⟩)], rfl⟩
end mg_85

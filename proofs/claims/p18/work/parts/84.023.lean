section mg_86
set_option maxHeartbeats 4000000 in
set_option maxRecDepth 100000 in
theorem L_heldAtPlace {G : mG} {l : Launch} (d : Nat) {h : mH} {w : Nat} {c : Nat → Int} {C : Nat → Nat → Int} {nm : Nat → Int64} {g : Nat → Option Nat} (hW : isW h w c C nm g) (hc : ∀ q, InR (c q)) {N : Nat} (hN : c 0 = (N : Int)) (hcap : N ≤ 90) {i : Int} (hi : InR i) : ∀ n t : Nat, t + n = N → RUN G l (d + 3) mX9_heldAtPlace 2 [some (.ref w), some (.int (J i)), some (.int (J (t : Int)))] [] h (fun v h' => v = some (.int (J (hpL c nm N i n t))) ∧ h' = h) := by
  intro n
  induction n with
  | zero =>
    intro t ht
    refine r_iload_n (pc := 2) dX9_heldAtPlace_2 rfl ?_
    refine r_aload_n (pc := 3) dX9_heldAtPlace_3 rfl (by first | rfl | exact isRefV_rf _) ?_
    refine r_getf (pc := 4) dX9_heldAtPlace_4 fX9_71 (by first | assumption | exact isI.gx (by assumption) | exact isI.gc (by assumption) | exact isW.gx (by assumption) | exact isW.gF (by assumption) | exact isW.gT (by assumption) (by omega) | exact isW.gS (by assumption) (by omega) | exact isW.gK (by assumption) (by omega) | exact isW.g1 (by assumption) | exact isW.g2 (by assumption) | exact isW.g3 (by assumption) | exact isI.gx (isW.i0 (by assumption)) | exact isI.gc (isW.i0 (by assumption)) | exact isI.gx (isW.i1 (by assumption)) | exact isI.gc (isW.i1 (by assumption)) | exact isI.gx (isW.i2 (by assumption)) | exact isI.gc (isW.i2 (by assumption)) | exact isI.gx (isW.i3 (by assumption)) | exact isI.gc (isW.i3 (by assumption)) | exact isI.gx (isW.i4 (by assumption)) | exact isI.gc (isW.i4 (by assumption)) | exact isI.gx (isW.i5 (by assumption)) | exact isI.gc (isW.i5 (by assumption)) | exact isR.gx (by assumption) | exact isRd.gx (by assumption) | exact isSp.gx (by assumption) | exact isI.gx (isR.i (by assumption)) | exact isI.gx (isRd.i (by assumption)) | exact isI.gc (isRd.i (by assumption)) | exact isI.gx (isSp.i (by assumption)) | exact isW.gx (isR.w (by assumption)) | exact isW.gF (isR.w (by assumption)) | fail "no such object") (by rfl) ?_
    refine rj_icmp_ge (pc := 7) (tgt := 39) dX9_heldAtPlace_7 (by decide) (by first | exact b01_r | exact bz_r | omega | (constructor <;> omega) | apply_assumption | (apply atF_r; assumption) | fail "no range") (by first | exact b01_r | exact bz_r | omega | (constructor <;> omega) | apply_assumption | (apply atF_r; assumption) | fail "no range") (fun c_7 => ?_) (fun c_7 => ?_)
    · refine rj_iconst (pc := 39) dX9_heldAtPlace_39 ?_
      refine r_ireturn (pc := 40) .int dX9_heldAtPlace_40 rfl (by first | rfl | assumption) ?_
      exact ⟨rfl, rfl⟩
    · exfalso; omega
  | succ n ih =>
    intro t ht
    refine r_iload_n (pc := 2) dX9_heldAtPlace_2 rfl ?_
    refine r_aload_n (pc := 3) dX9_heldAtPlace_3 rfl (by first | rfl | exact isRefV_rf _) ?_
    refine r_getf (pc := 4) dX9_heldAtPlace_4 fX9_71 (by first | assumption | exact isI.gx (by assumption) | exact isI.gc (by assumption) | exact isW.gx (by assumption) | exact isW.gF (by assumption) | exact isW.gT (by assumption) (by omega) | exact isW.gS (by assumption) (by omega) | exact isW.gK (by assumption) (by omega) | exact isW.g1 (by assumption) | exact isW.g2 (by assumption) | exact isW.g3 (by assumption) | exact isI.gx (isW.i0 (by assumption)) | exact isI.gc (isW.i0 (by assumption)) | exact isI.gx (isW.i1 (by assumption)) | exact isI.gc (isW.i1 (by assumption)) | exact isI.gx (isW.i2 (by assumption)) | exact isI.gc (isW.i2 (by assumption)) | exact isI.gx (isW.i3 (by assumption)) | exact isI.gc (isW.i3 (by assumption)) | exact isI.gx (isW.i4 (by assumption)) | exact isI.gc (isW.i4 (by assumption)) | exact isI.gx (isW.i5 (by assumption)) | exact isI.gc (isW.i5 (by assumption)) | exact isR.gx (by assumption) | exact isRd.gx (by assumption) | exact isSp.gx (by assumption) | exact isI.gx (isR.i (by assumption)) | exact isI.gx (isRd.i (by assumption)) | exact isI.gc (isRd.i (by assumption)) | exact isI.gx (isSp.i (by assumption)) | exact isW.gx (isR.w (by assumption)) | exact isW.gF (isR.w (by assumption)) | fail "no such object") (by rfl) ?_
    refine rj_icmp_ge (pc := 7) (tgt := 39) dX9_heldAtPlace_7 (by decide) (by first | exact b01_r | exact bz_r | omega | (constructor <;> omega) | apply_assumption | (apply atF_r; assumption) | fail "no range") (by first | exact b01_r | exact bz_r | omega | (constructor <;> omega) | apply_assumption | (apply atF_r; assumption) | fail "no range") (fun c_7 => ?_) (fun c_7 => ?_)
    · refine rj_iconst (pc := 39) dX9_heldAtPlace_39 ?_
      refine r_ireturn (pc := 40) .int dX9_heldAtPlace_40 rfl (by first | rfl | assumption) ?_
      first | (exfalso; omega) | exact ⟨by rw [hpL, if_pos (⟨c_15, c_28⟩)], rfl⟩
    · refine r_aload_n (pc := 10) dX9_heldAtPlace_10 rfl (by first | rfl | exact isRefV_rf _) ?_
      refine r_iload_n (pc := 11) dX9_heldAtPlace_11 rfl ?_
      refine r_callV1 (pc := 12) dX9_heldAtPlace_12 qX9_isHeld kX9_157 vX9_isHeld (by first | assumption | exact isI.gx (by assumption) | exact isI.gc (by assumption) | exact isW.gx (by assumption) | exact isW.gF (by assumption) | exact isW.gT (by assumption) (by omega) | exact isW.gS (by assumption) (by omega) | exact isW.gK (by assumption) (by omega) | exact isW.g1 (by assumption) | exact isW.g2 (by assumption) | exact isW.g3 (by assumption) | exact isI.gx (isW.i0 (by assumption)) | exact isI.gc (isW.i0 (by assumption)) | exact isI.gx (isW.i1 (by assumption)) | exact isI.gc (isW.i1 (by assumption)) | exact isI.gx (isW.i2 (by assumption)) | exact isI.gc (isW.i2 (by assumption)) | exact isI.gx (isW.i3 (by assumption)) | exact isI.gc (isW.i3 (by assumption)) | exact isI.gx (isW.i4 (by assumption)) | exact isI.gc (isW.i4 (by assumption)) | exact isI.gx (isW.i5 (by assumption)) | exact isI.gc (isW.i5 (by assumption)) | exact isR.gx (by assumption) | exact isRd.gx (by assumption) | exact isSp.gx (by assumption) | exact isI.gx (isR.i (by assumption)) | exact isI.gx (isRd.i (by assumption)) | exact isI.gc (isRd.i (by assumption)) | exact isI.gx (isSp.i (by assumption)) | exact isW.gx (isR.w (by assumption)) | exact isW.gF (isR.w (by assumption)) | fail "no such object") rfl rfl (Nat.le_of_ble_eq_true rfl) (cn_isHeld _ hW hc (t := t) (by omega) (by omega)) (fun v_12 h_12 q_12 => ?_)
      obtain ⟨rfl, rfl⟩ := q_12
      refine rj_if_eq (pc := 15) (tgt := 33) dX9_heldAtPlace_15 (by decide) (by first | exact b01_r | exact bz_r | omega | (constructor <;> omega) | apply_assumption | (apply atF_r; assumption) | fail "no range") (fun c_15 => ?_) (fun c_15 => ?_)
      · try simp only [b01_0, bz_0, Classical.not_not] at c_15
        refine rj_iinc (pc := 33) dX9_heldAtPlace_33 (Nat.le_of_ble_eq_true rfl) rfl ?_
        dsimp only [lsSt, List.set, mLs, mEnt]
        refine r_goto (pc := 36) (tgt := 2) dX9_heldAtPlace_36 (by decide) ?_
        have z := ih (t + 1) (by omega)
        rw [show ((t + 1 : Nat) : Int) = (t : Int) + 1 by omega] at z
        rw [hpL, if_neg (fun g => c_15 g.1)]
        exact z
      · try simp only [b01_0, bz_0, Classical.not_not] at c_15
        refine r_aload_n (pc := 18) dX9_heldAtPlace_18 rfl (by first | rfl | exact isRefV_rf _) ?_
        refine r_aload_n (pc := 19) dX9_heldAtPlace_19 rfl (by first | rfl | exact isRefV_rf _) ?_
        refine r_iload_n (pc := 20) dX9_heldAtPlace_20 rfl ?_
        refine r_callV1 (pc := 21) dX9_heldAtPlace_21 qX9_nameOf kX9_168 vX9_nameOf (by first | assumption | exact isI.gx (by assumption) | exact isI.gc (by assumption) | exact isW.gx (by assumption) | exact isW.gF (by assumption) | exact isW.gT (by assumption) (by omega) | exact isW.gS (by assumption) (by omega) | exact isW.gK (by assumption) (by omega) | exact isW.g1 (by assumption) | exact isW.g2 (by assumption) | exact isW.g3 (by assumption) | exact isI.gx (isW.i0 (by assumption)) | exact isI.gc (isW.i0 (by assumption)) | exact isI.gx (isW.i1 (by assumption)) | exact isI.gc (isW.i1 (by assumption)) | exact isI.gx (isW.i2 (by assumption)) | exact isI.gc (isW.i2 (by assumption)) | exact isI.gx (isW.i3 (by assumption)) | exact isI.gc (isW.i3 (by assumption)) | exact isI.gx (isW.i4 (by assumption)) | exact isI.gc (isW.i4 (by assumption)) | exact isI.gx (isW.i5 (by assumption)) | exact isI.gc (isW.i5 (by assumption)) | exact isR.gx (by assumption) | exact isRd.gx (by assumption) | exact isSp.gx (by assumption) | exact isI.gx (isR.i (by assumption)) | exact isI.gx (isRd.i (by assumption)) | exact isI.gc (isRd.i (by assumption)) | exact isI.gx (isSp.i (by assumption)) | exact isW.gx (isR.w (by assumption)) | exact isW.gF (isR.w (by assumption)) | fail "no such object") rfl rfl (Nat.le_of_ble_eq_true rfl) (cn_nameOf _ hW hc (t := t) (by omega) (by omega)) (fun v_21 h_21 q_21 => ?_)
        obtain ⟨rfl, rfl⟩ := q_21
        refine r_callV1 (pc := 24) dX9_heldAtPlace_24 qX9_heldAhead kX9_180 vX9_heldAhead (by first | assumption | exact isI.gx (by assumption) | exact isI.gc (by assumption) | exact isW.gx (by assumption) | exact isW.gF (by assumption) | exact isW.gT (by assumption) (by omega) | exact isW.gS (by assumption) (by omega) | exact isW.gK (by assumption) (by omega) | exact isW.g1 (by assumption) | exact isW.g2 (by assumption) | exact isW.g3 (by assumption) | exact isI.gx (isW.i0 (by assumption)) | exact isI.gc (isW.i0 (by assumption)) | exact isI.gx (isW.i1 (by assumption)) | exact isI.gc (isW.i1 (by assumption)) | exact isI.gx (isW.i2 (by assumption)) | exact isI.gc (isW.i2 (by assumption)) | exact isI.gx (isW.i3 (by assumption)) | exact isI.gc (isW.i3 (by assumption)) | exact isI.gx (isW.i4 (by assumption)) | exact isI.gc (isW.i4 (by assumption)) | exact isI.gx (isW.i5 (by assumption)) | exact isI.gc (isW.i5 (by assumption)) | exact isR.gx (by assumption) | exact isRd.gx (by assumption) | exact isSp.gx (by assumption) | exact isI.gx (isR.i (by assumption)) | exact isI.gx (isRd.i (by assumption)) | exact isI.gc (isRd.i (by assumption)) | exact isI.gx (isSp.i (by assumption)) | exact isW.gx (isR.w (by assumption)) | exact isW.gF (isR.w (by assumption)) | fail "no such object") rfl rfl (Nat.le_of_ble_eq_true rfl) (cq_heldAhead _ hW hc hN hcap (y := nm t)) (fun v_24 h_24 q_24 => ?_)
        obtain ⟨rfl, rfl⟩ := q_24
        have rk := cnt_r (haB c nm (nm t)) N
        refine r_iload_n (pc := 27) dX9_heldAtPlace_27 rfl ?_
        refine rj_icmp_ne (pc := 28) (tgt := 33) dX9_heldAtPlace_28 (by decide) (by first | exact b01_r | exact bz_r | omega | (constructor <;> omega) | apply_assumption | (apply atF_r; assumption) | fail "no range") (by first | exact b01_r | exact bz_r | omega | (constructor <;> omega) | apply_assumption | (apply atF_r; assumption) | fail "no range") (fun c_28 => ?_) (fun c_28 => ?_)
        · refine rj_iinc (pc := 33) dX9_heldAtPlace_33 (Nat.le_of_ble_eq_true rfl) rfl ?_
          dsimp only [lsSt, List.set, mLs, mEnt]
          refine r_goto (pc := 36) (tgt := 2) dX9_heldAtPlace_36 (by decide) ?_
          have z := ih (t + 1) (by omega)
          rw [show ((t + 1 : Nat) : Int) = (t : Int) + 1 by omega] at z
          rw [hpL, if_neg (fun g => c_28 g.2)]
          exact z
        · refine r_iload_n (pc := 31) dX9_heldAtPlace_31 rfl ?_
          refine r_ireturn (pc := 32) .int dX9_heldAtPlace_32 rfl (by first | rfl | assumption) ?_
          first | (exfalso; omega) | exact ⟨by rw [hpL, if_pos (⟨c_15, c_28⟩)], rfl⟩
end mg_86

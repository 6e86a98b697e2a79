section mg_90
set_option maxHeartbeats 4000000 in
set_option maxRecDepth 100000 in
theorem L_heldFrom {G : mG} {l : Launch} (d : Nat) {h : mH} {w : Nat} {c : Nat → Int} {C : Nat → Nat → Int} {nm : Nat → Int64} {g : Nat → Option Nat} (hW : isW h w c C nm g) (hc : ∀ q, InR (c q)) {N : Nat} (hN : c 0 = (N : Int)) (hcap : N ≤ 90) {a : Nat} {z : Int} {f : Nat → Int} (I : isI h a 120 z f) (hz : InR z) (hf : ∀ q, InR (f q)) : ∀ (n t : Nat) (b : Int), t + n = N → -5 ≤ b → b < t → RUN G l (d + 3) mX9_heldFrom 5 [some (.ref w), some (.ref a), some (.int (J b)), some (.int (J (t : Int)))] [] h (fun v h' => v = some (.int (J (hfL c nm (fun y => lessL y z f 8 0) n t b))) ∧ h' = h) := by
  intro n
  induction n with
  | zero =>
    intro t b ht hb1 hb2
    refine r_iload_n (pc := 5) dX9_heldFrom_5 rfl ?_
    refine r_aload_n (pc := 6) dX9_heldFrom_6 rfl (by first | rfl | exact isRefV_rf _) ?_
    refine r_getf (pc := 7) dX9_heldFrom_7 fX9_71 (by first | assumption | exact isI.gx (by assumption) | exact isI.gc (by assumption) | exact isW.gx (by assumption) | exact isW.gF (by assumption) | exact isW.gT (by assumption) (by omega) | exact isW.gS (by assumption) (by omega) | exact isW.gK (by assumption) (by omega) | exact isW.g1 (by assumption) | exact isW.g2 (by assumption) | exact isW.g3 (by assumption) | exact isI.gx (isW.i0 (by assumption)) | exact isI.gc (isW.i0 (by assumption)) | exact isI.gx (isW.i1 (by assumption)) | exact isI.gc (isW.i1 (by assumption)) | exact isI.gx (isW.i2 (by assumption)) | exact isI.gc (isW.i2 (by assumption)) | exact isI.gx (isW.i3 (by assumption)) | exact isI.gc (isW.i3 (by assumption)) | exact isI.gx (isW.i4 (by assumption)) | exact isI.gc (isW.i4 (by assumption)) | exact isI.gx (isW.i5 (by assumption)) | exact isI.gc (isW.i5 (by assumption)) | exact isR.gx (by assumption) | exact isRd.gx (by assumption) | exact isSp.gx (by assumption) | exact isI.gx (isR.i (by assumption)) | exact isI.gx (isRd.i (by assumption)) | exact isI.gc (isRd.i (by assumption)) | exact isI.gx (isSp.i (by assumption)) | exact isW.gx (isR.w (by assumption)) | exact isW.gF (isR.w (by assumption)) | fail "no such object") (by rfl) ?_
    refine rj_icmp_ge (pc := 10) (tgt := 59) dX9_heldFrom_10 (by decide) (by first | exact b01_r | exact bz_r | omega | (constructor <;> omega) | apply_assumption | (apply atF_r; assumption) | fail "no range") (by first | exact b01_r | exact bz_r | omega | (constructor <;> omega) | apply_assumption | (apply atF_r; assumption) | fail "no range") (fun c_10 => ?_) (fun c_10 => ?_)
    · refine r_iload_n (pc := 59) dX9_heldFrom_59 rfl ?_
      refine r_ireturn (pc := 60) .int dX9_heldFrom_60 rfl (by first | rfl | assumption) ?_
      exact ⟨rfl, rfl⟩
    · exfalso; omega
  | succ n ih =>
    intro t b ht hb1 hb2
    have e1 : ((t + 1 : Nat) : Int) = (t : Int) + 1 := by omega
    refine r_iload_n (pc := 5) dX9_heldFrom_5 rfl ?_
    refine r_aload_n (pc := 6) dX9_heldFrom_6 rfl (by first | rfl | exact isRefV_rf _) ?_
    refine r_getf (pc := 7) dX9_heldFrom_7 fX9_71 (by first | assumption | exact isI.gx (by assumption) | exact isI.gc (by assumption) | exact isW.gx (by assumption) | exact isW.gF (by assumption) | exact isW.gT (by assumption) (by omega) | exact isW.gS (by assumption) (by omega) | exact isW.gK (by assumption) (by omega) | exact isW.g1 (by assumption) | exact isW.g2 (by assumption) | exact isW.g3 (by assumption) | exact isI.gx (isW.i0 (by assumption)) | exact isI.gc (isW.i0 (by assumption)) | exact isI.gx (isW.i1 (by assumption)) | exact isI.gc (isW.i1 (by assumption)) | exact isI.gx (isW.i2 (by assumption)) | exact isI.gc (isW.i2 (by assumption)) | exact isI.gx (isW.i3 (by assumption)) | exact isI.gc (isW.i3 (by assumption)) | exact isI.gx (isW.i4 (by assumption)) | exact isI.gc (isW.i4 (by assumption)) | exact isI.gx (isW.i5 (by assumption)) | exact isI.gc (isW.i5 (by assumption)) | exact isR.gx (by assumption) | exact isRd.gx (by assumption) | exact isSp.gx (by assumption) | exact isI.gx (isR.i (by assumption)) | exact isI.gx (isRd.i (by assumption)) | exact isI.gc (isRd.i (by assumption)) | exact isI.gx (isSp.i (by assumption)) | exact isW.gx (isR.w (by assumption)) | exact isW.gF (isR.w (by assumption)) | fail "no such object") (by rfl) ?_
    refine rj_icmp_ge (pc := 10) (tgt := 59) dX9_heldFrom_10 (by decide) (by first | exact b01_r | exact bz_r | omega | (constructor <;> omega) | apply_assumption | (apply atF_r; assumption) | fail "no range") (by first | exact b01_r | exact bz_r | omega | (constructor <;> omega) | apply_assumption | (apply atF_r; assumption) | fail "no range") (fun c_10 => ?_) (fun c_10 => ?_)
    · refine r_iload_n (pc := 59) dX9_heldFrom_59 rfl ?_
      refine r_ireturn (pc := 60) .int dX9_heldFrom_60 rfl (by first | rfl | assumption) ?_
      exfalso; omega
    · refine r_aload_n (pc := 13) dX9_heldFrom_13 rfl (by first | rfl | exact isRefV_rf _) ?_
      refine r_iload_n (pc := 14) dX9_heldFrom_14 rfl ?_
      refine r_callV1 (pc := 15) dX9_heldFrom_15 qX9_isHeld kX9_157 vX9_isHeld (by first | assumption | exact isI.gx (by assumption) | exact isI.gc (by assumption) | exact isW.gx (by assumption) | exact isW.gF (by assumption) | exact isW.gT (by assumption) (by omega) | exact isW.gS (by assumption) (by omega) | exact isW.gK (by assumption) (by omega) | exact isW.g1 (by assumption) | exact isW.g2 (by assumption) | exact isW.g3 (by assumption) | exact isI.gx (isW.i0 (by assumption)) | exact isI.gc (isW.i0 (by assumption)) | exact isI.gx (isW.i1 (by assumption)) | exact isI.gc (isW.i1 (by assumption)) | exact isI.gx (isW.i2 (by assumption)) | exact isI.gc (isW.i2 (by assumption)) | exact isI.gx (isW.i3 (by assumption)) | exact isI.gc (isW.i3 (by assumption)) | exact isI.gx (isW.i4 (by assumption)) | exact isI.gc (isW.i4 (by assumption)) | exact isI.gx (isW.i5 (by assumption)) | exact isI.gc (isW.i5 (by assumption)) | exact isR.gx (by assumption) | exact isRd.gx (by assumption) | exact isSp.gx (by assumption) | exact isI.gx (isR.i (by assumption)) | exact isI.gx (isRd.i (by assumption)) | exact isI.gc (isRd.i (by assumption)) | exact isI.gx (isSp.i (by assumption)) | exact isW.gx (isR.w (by assumption)) | exact isW.gF (isR.w (by assumption)) | fail "no such object") rfl rfl (Nat.le_of_ble_eq_true rfl) (cn_isHeld _ hW hc (t := t) (by omega) (by omega)) (fun v_15 h_15 q_15 => ?_)
      obtain ⟨rfl, rfl⟩ := q_15
      refine rj_if_eq (pc := 18) (tgt := 53) dX9_heldFrom_18 (by decide) (by first | exact b01_r | exact bz_r | omega | (constructor <;> omega) | apply_assumption | (apply atF_r; assumption) | fail "no range") (fun c_18 => ?_) (fun c_18 => ?_)
      · try simp only [b01_0, bz_0, Classical.not_not] at c_18
        refine rj_iinc (pc := 53) dX9_heldFrom_53 (Nat.le_of_ble_eq_true rfl) rfl ?_
        dsimp only [lsSt, List.set, mLs, mEnt]
        refine r_goto (pc := 56) (tgt := 5) dX9_heldFrom_56 (by decide) ?_
        rw [hfL, if_neg (fun g => c_18 g.1)]
        have z := ih (t + 1) b (by omega) (by omega) (by omega)
        rw [e1] at z
        exact z
      · try simp only [b01_0, bz_0, Classical.not_not] at c_18
        refine r_aload_n (pc := 21) dX9_heldFrom_21 rfl (by first | rfl | exact isRefV_rf _) ?_
        refine r_iload_n (pc := 22) dX9_heldFrom_22 rfl ?_
        refine r_callV1 (pc := 23) dX9_heldFrom_23 qX9_nameOf kX9_168 vX9_nameOf (by first | assumption | exact isI.gx (by assumption) | exact isI.gc (by assumption) | exact isW.gx (by assumption) | exact isW.gF (by assumption) | exact isW.gT (by assumption) (by omega) | exact isW.gS (by assumption) (by omega) | exact isW.gK (by assumption) (by omega) | exact isW.g1 (by assumption) | exact isW.g2 (by assumption) | exact isW.g3 (by assumption) | exact isI.gx (isW.i0 (by assumption)) | exact isI.gc (isW.i0 (by assumption)) | exact isI.gx (isW.i1 (by assumption)) | exact isI.gc (isW.i1 (by assumption)) | exact isI.gx (isW.i2 (by assumption)) | exact isI.gc (isW.i2 (by assumption)) | exact isI.gx (isW.i3 (by assumption)) | exact isI.gc (isW.i3 (by assumption)) | exact isI.gx (isW.i4 (by assumption)) | exact isI.gc (isW.i4 (by assumption)) | exact isI.gx (isW.i5 (by assumption)) | exact isI.gc (isW.i5 (by assumption)) | exact isR.gx (by assumption) | exact isRd.gx (by assumption) | exact isSp.gx (by assumption) | exact isI.gx (isR.i (by assumption)) | exact isI.gx (isRd.i (by assumption)) | exact isI.gc (isRd.i (by assumption)) | exact isI.gx (isSp.i (by assumption)) | exact isW.gx (isR.w (by assumption)) | exact isW.gF (isR.w (by assumption)) | fail "no such object") rfl rfl (Nat.le_of_ble_eq_true rfl) (cn_nameOf _ hW hc (t := t) (by omega) (by omega)) (fun v_23 h_23 q_23 => ?_)
        obtain ⟨rfl, rfl⟩ := q_23
        refine r_aload_n (pc := 26) dX9_heldFrom_26 rfl (by first | rfl | exact isRefV_rf _) ?_
        refine r_callS2 (pc := 27) dX9_heldFrom_27 qX9_isLess kX9_172 sX9_isLess (Nat.le_of_ble_eq_true rfl) (cz_isLess _ I hz hf (y := nm t)) (fun v_27 h_27 q_27 => ?_)
        obtain ⟨rfl, rfl⟩ := q_27
        refine rj_if_ne (pc := 30) (tgt := 53) dX9_heldFrom_30 (by decide) (by first | exact b01_r | exact bz_r | omega | (constructor <;> omega) | apply_assumption | (apply atF_r; assumption) | fail "no range") (fun c_30 => ?_) (fun c_30 => ?_)
        · try simp only [b01_0, bz_0, Classical.not_not] at c_30
          refine rj_iinc (pc := 53) dX9_heldFrom_53 (Nat.le_of_ble_eq_true rfl) rfl ?_
          dsimp only [lsSt, List.set, mLs, mEnt]
          refine r_goto (pc := 56) (tgt := 5) dX9_heldFrom_56 (by decide) ?_
          rw [hfL, if_neg (fun g => absurd (g.2.1.symm.trans c_30) (by decide))]
          have z := ih (t + 1) b (by omega) (by omega) (by omega)
          rw [e1] at z
          exact z
        · try simp only [b01_0, bz_0, Classical.not_not] at c_30
          refine r_iload_n (pc := 33) dX9_heldFrom_33 rfl ?_
          refine rj_if_lt (pc := 34) (tgt := 51) dX9_heldFrom_34 (by decide) (by first | exact b01_r | exact bz_r | omega | (constructor <;> omega) | apply_assumption | (apply atF_r; assumption) | fail "no range") (fun c_34 => ?_) (fun c_34 => ?_)
          · refine r_iload_n (pc := 51) dX9_heldFrom_51 rfl ?_
            refine r_istore_n (pc := 52) dX9_heldFrom_52 (Nat.le_of_ble_eq_true rfl) ?_
            dsimp only [lsSt, List.set, mLs, mEnt]
            refine rj_iinc (pc := 53) dX9_heldFrom_53 (Nat.le_of_ble_eq_true rfl) rfl ?_
            dsimp only [lsSt, List.set, mLs, mEnt]
            refine r_goto (pc := 56) (tgt := 5) dX9_heldFrom_56 (by decide) ?_
            rw [hfL, if_pos (⟨c_18, (Bool.not_eq_true _).mp c_30, Or.inl (by omega)⟩)]
            have z := ih (t + 1) (t : Int) (by omega) (by omega) (by omega)
            rw [e1] at z
            exact z
          · refine r_aload_n (pc := 37) dX9_heldFrom_37 rfl (by first | rfl | exact isRefV_rf _) ?_
            refine r_iload_n (pc := 38) dX9_heldFrom_38 rfl ?_
            refine r_callV1 (pc := 39) dX9_heldFrom_39 qX9_nameOf kX9_168 vX9_nameOf (by first | assumption | exact isI.gx (by assumption) | exact isI.gc (by assumption) | exact isW.gx (by assumption) | exact isW.gF (by assumption) | exact isW.gT (by assumption) (by omega) | exact isW.gS (by assumption) (by omega) | exact isW.gK (by assumption) (by omega) | exact isW.g1 (by assumption) | exact isW.g2 (by assumption) | exact isW.g3 (by assumption) | exact isI.gx (isW.i0 (by assumption)) | exact isI.gc (isW.i0 (by assumption)) | exact isI.gx (isW.i1 (by assumption)) | exact isI.gc (isW.i1 (by assumption)) | exact isI.gx (isW.i2 (by assumption)) | exact isI.gc (isW.i2 (by assumption)) | exact isI.gx (isW.i3 (by assumption)) | exact isI.gc (isW.i3 (by assumption)) | exact isI.gx (isW.i4 (by assumption)) | exact isI.gc (isW.i4 (by assumption)) | exact isI.gx (isW.i5 (by assumption)) | exact isI.gc (isW.i5 (by assumption)) | exact isR.gx (by assumption) | exact isRd.gx (by assumption) | exact isSp.gx (by assumption) | exact isI.gx (isR.i (by assumption)) | exact isI.gx (isRd.i (by assumption)) | exact isI.gc (isRd.i (by assumption)) | exact isI.gx (isSp.i (by assumption)) | exact isW.gx (isR.w (by assumption)) | exact isW.gF (isR.w (by assumption)) | fail "no such object") rfl rfl (Nat.le_of_ble_eq_true rfl) (cn_nameOf _ hW hc (t := t) (by omega) (by omega)) (fun v_39 h_39 q_39 => ?_)
            obtain ⟨rfl, rfl⟩ := q_39
            refine r_aload_n (pc := 42) dX9_heldFrom_42 rfl (by first | rfl | exact isRefV_rf _) ?_
            refine r_iload_n (pc := 43) dX9_heldFrom_43 rfl ?_
            obtain ⟨b, rfl⟩ : ∃ q : Nat, b = (q : Int) := ⟨b.toNat, by omega⟩
            refine r_callV1 (pc := 44) dX9_heldFrom_44 qX9_nameOf kX9_168 vX9_nameOf (by first | assumption | exact isI.gx (by assumption) | exact isI.gc (by assumption) | exact isW.gx (by assumption) | exact isW.gF (by assumption) | exact isW.gT (by assumption) (by omega) | exact isW.gS (by assumption) (by omega) | exact isW.gK (by assumption) (by omega) | exact isW.g1 (by assumption) | exact isW.g2 (by assumption) | exact isW.g3 (by assumption) | exact isI.gx (isW.i0 (by assumption)) | exact isI.gc (isW.i0 (by assumption)) | exact isI.gx (isW.i1 (by assumption)) | exact isI.gc (isW.i1 (by assumption)) | exact isI.gx (isW.i2 (by assumption)) | exact isI.gc (isW.i2 (by assumption)) | exact isI.gx (isW.i3 (by assumption)) | exact isI.gc (isW.i3 (by assumption)) | exact isI.gx (isW.i4 (by assumption)) | exact isI.gc (isW.i4 (by assumption)) | exact isI.gx (isW.i5 (by assumption)) | exact isI.gc (isW.i5 (by assumption)) | exact isR.gx (by assumption) | exact isRd.gx (by assumption) | exact isSp.gx (by assumption) | exact isI.gx (isR.i (by assumption)) | exact isI.gx (isRd.i (by assumption)) | exact isI.gc (isRd.i (by assumption)) | exact isI.gx (isSp.i (by assumption)) | exact isW.gx (isR.w (by assumption)) | exact isW.gF (isR.w (by assumption)) | fail "no such object") rfl rfl (Nat.le_of_ble_eq_true rfl) (cn_nameOf _ hW hc (t := b) (by omega) (by omega)) (fun v_44 h_44 q_44 => ?_)
            obtain ⟨rfl, rfl⟩ := q_44
            refine rj_lcmpE (pc := 47) dX9_heldFrom_47 ?_
            have rr := lcV_r (x := nm t) (y := nm b)
            refine rj_if_ge (pc := 48) (tgt := 53) dX9_heldFrom_48 (by decide) (by first | exact b01_r | exact bz_r | omega | (constructor <;> omega) | apply_assumption | (apply atF_r; assumption) | fail "no range") (fun c_48 => ?_) (fun c_48 => ?_)
            · refine rj_iinc (pc := 53) dX9_heldFrom_53 (Nat.le_of_ble_eq_true rfl) rfl ?_
              dsimp only [lsSt, List.set, mLs, mEnt]
              refine r_goto (pc := 56) (tgt := 5) dX9_heldFrom_56 (by decide) ?_
              rw [hfL, if_neg (fun g => g.2.2.elim (fun z => absurd z (by omega)) (fun z => absurd (show lcV (nm t) (nm b) < 0 from lcV_n.mpr z) (by omega)))]
              have z := ih (t + 1) b (by omega) (by omega) (by omega)
              rw [e1] at z
              exact z
            · refine r_iload_n (pc := 51) dX9_heldFrom_51 rfl ?_
              refine r_istore_n (pc := 52) dX9_heldFrom_52 (Nat.le_of_ble_eq_true rfl) ?_
              dsimp only [lsSt, List.set, mLs, mEnt]
              refine rj_iinc (pc := 53) dX9_heldFrom_53 (Nat.le_of_ble_eq_true rfl) rfl ?_
              dsimp only [lsSt, List.set, mLs, mEnt]
              refine r_goto (pc := 56) (tgt := 5) dX9_heldFrom_56 (by decide) ?_
              rw [hfL, if_pos (⟨c_18, (Bool.not_eq_true _).mp c_30, Or.inr (lcV_n.mp (show lcV (nm t) (nm b) < 0 by omega))⟩)]
              have z := ih (t + 1) (t : Int) (by omega) (by omega) (by omega)
              rw [e1] at z
              exact z
end mg_90

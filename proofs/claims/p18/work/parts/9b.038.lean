section mg_9k
set_option maxHeartbeats 4000000 in
set_option maxRecDepth 100000 in
theorem L_readFigures {G : mG} {l : Launch} (d : Nat) {a : Nat} {e o z : Int} {f : Nat → Int} (he : InR e) (ho : InR o) (hz : InR z) (hf : ∀ q, InR (f q)) {m : Nat} (hm : m ≤ 10) {Q : Option Value → mH → Prop} : ∀ (n t : Nat) (p u : Int) (h : mH), isRd h a p e o z f → t + n = m → 0 ≤ p ∧ p + n ≤ 1000 → (∀ h' (t' : Nat), isRd h' a (rfL z f n p u).2 e o z f → (t' : Int) = t + ((rfL z f n p u).2 - p) → Same (dBlk a) h h' → RUN G l (d + 1) mX2_readFigures 56 [some (.ref a), some (.int (J (m : Int))), some (.int (J (rfL z f n p u).1)), some (.int (J (t' : Int)))] [] h' Q) → RUN G l (d + 1) mX2_readFigures 4 [some (.ref a), some (.int (J (m : Int))), some (.int (J u)), some (.int (J (t : Int)))] [] h Q := by
  intro n
  induction n with
  | zero =>
    intro t p u h hD ht hp K
    refine r_iload_n (pc := 4) dX2_readFigures_4 rfl ?_
    refine r_iload_n (pc := 5) dX2_readFigures_5 rfl ?_
    refine rj_icmp_ge (pc := 6) (tgt := 56) dX2_readFigures_6 (by decide) (by first | exact b01_r | exact bz_r | omega | (constructor <;> omega) | apply_assumption | (apply atF_r; assumption) | fail "no range") (by first | exact b01_r | exact bz_r | omega | (constructor <;> omega) | apply_assumption | (apply atF_r; assumption) | fail "no range") (fun c_6 => ?_) (fun c_6 => ?_)
    · have y := K h t (by unfold rfL; exact hD) (by unfold rfL; dsimp only; omega) Same.refl
      unfold rfL at y
      exact y
    · exfalso; omega
  | succ n ih =>
    intro t p u h hD ht hp K
    have rh := hereC_r (p := p) (z := z) hf
    refine r_iload_n (pc := 4) dX2_readFigures_4 rfl ?_
    refine r_iload_n (pc := 5) dX2_readFigures_5 rfl ?_
    refine rj_icmp_ge (pc := 6) (tgt := 56) dX2_readFigures_6 (by decide) (by first | exact b01_r | exact bz_r | omega | (constructor <;> omega) | apply_assumption | (apply atF_r; assumption) | fail "no range") (by first | exact b01_r | exact bz_r | omega | (constructor <;> omega) | apply_assumption | (apply atF_r; assumption) | fail "no range") (fun c_6 => ?_) (fun c_6 => ?_)
    · exfalso; omega
    · refine r_aload_n (pc := 9) dX2_readFigures_9 rfl (by first | rfl | exact isRefV_rf _) ?_
      refine r_callV0 (pc := 10) dX2_readFigures_10 qX2_here kX2_34 vX2_here (by first | assumption | exact isI.gx (by assumption) | exact isI.gc (by assumption) | exact isW.gx (by assumption) | exact isW.gF (by assumption) | exact isW.gT (by assumption) (by omega) | exact isW.gS (by assumption) (by omega) | exact isW.gK (by assumption) (by omega) | exact isW.g1 (by assumption) | exact isW.g2 (by assumption) | exact isW.g3 (by assumption) | exact isI.gx (isW.i0 (by assumption)) | exact isI.gc (isW.i0 (by assumption)) | exact isI.gx (isW.i1 (by assumption)) | exact isI.gc (isW.i1 (by assumption)) | exact isI.gx (isW.i2 (by assumption)) | exact isI.gc (isW.i2 (by assumption)) | exact isI.gx (isW.i3 (by assumption)) | exact isI.gc (isW.i3 (by assumption)) | exact isI.gx (isW.i4 (by assumption)) | exact isI.gc (isW.i4 (by assumption)) | exact isI.gx (isW.i5 (by assumption)) | exact isI.gc (isW.i5 (by assumption)) | exact isR.gx (by assumption) | exact isRd.gx (by assumption) | exact isSp.gx (by assumption) | exact isI.gx (isR.i (by assumption)) | exact isI.gx (isRd.i (by assumption)) | exact isI.gc (isRd.i (by assumption)) | exact isI.gx (isSp.i (by assumption)) | exact isW.gx (isR.w (by assumption)) | exact isW.gF (isR.w (by assumption)) | fail "no such object") rfl rfl (Nat.le_of_ble_eq_true rfl) (cd_here _ hD ⟨by omega, by omega⟩ he ho hz hf) (fun v_10 h_10 q_10 => ?_)
      obtain ⟨rfl, rfl⟩ := q_10
      refine rj_bipush (pc := 13) dX2_readFigures_13 (by decide +kernel) ?_
      refine rj_icmp_lt (pc := 15) (tgt := 56) dX2_readFigures_15 (by decide) (by first | exact b01_r | exact bz_r | omega | (constructor <;> omega) | apply_assumption | (apply atF_r; assumption) | fail "no range") (by first | exact b01_r | exact bz_r | omega | (constructor <;> omega) | apply_assumption | (apply atF_r; assumption) | fail "no range") (fun c_15 => ?_) (fun c_15 => ?_)
      · have hcc : ¬ (48 ≤ hereC p z f ∧ hereC p z f ≤ 57) := by omega
        have y := K h_10 t (by rw [rfL, if_neg hcc]; exact hD) (by rw [rfL, if_neg hcc]; dsimp only; omega) Same.refl
        rw [rfL, if_neg hcc] at y
        exact y
      · refine r_aload_n (pc := 18) dX2_readFigures_18 rfl (by first | rfl | exact isRefV_rf _) ?_
        refine r_callV0 (pc := 19) dX2_readFigures_19 qX2_here kX2_34 vX2_here (by first | assumption | exact isI.gx (by assumption) | exact isI.gc (by assumption) | exact isW.gx (by assumption) | exact isW.gF (by assumption) | exact isW.gT (by assumption) (by omega) | exact isW.gS (by assumption) (by omega) | exact isW.gK (by assumption) (by omega) | exact isW.g1 (by assumption) | exact isW.g2 (by assumption) | exact isW.g3 (by assumption) | exact isI.gx (isW.i0 (by assumption)) | exact isI.gc (isW.i0 (by assumption)) | exact isI.gx (isW.i1 (by assumption)) | exact isI.gc (isW.i1 (by assumption)) | exact isI.gx (isW.i2 (by assumption)) | exact isI.gc (isW.i2 (by assumption)) | exact isI.gx (isW.i3 (by assumption)) | exact isI.gc (isW.i3 (by assumption)) | exact isI.gx (isW.i4 (by assumption)) | exact isI.gc (isW.i4 (by assumption)) | exact isI.gx (isW.i5 (by assumption)) | exact isI.gc (isW.i5 (by assumption)) | exact isR.gx (by assumption) | exact isRd.gx (by assumption) | exact isSp.gx (by assumption) | exact isI.gx (isR.i (by assumption)) | exact isI.gx (isRd.i (by assumption)) | exact isI.gc (isRd.i (by assumption)) | exact isI.gx (isSp.i (by assumption)) | exact isW.gx (isR.w (by assumption)) | exact isW.gF (isR.w (by assumption)) | fail "no such object") rfl rfl (Nat.le_of_ble_eq_true rfl) (cd_here _ hD ⟨by omega, by omega⟩ he ho hz hf) (fun v_19 h_19 q_19 => ?_)
        obtain ⟨rfl, rfl⟩ := q_19
        refine rj_bipush (pc := 22) dX2_readFigures_22 (by decide +kernel) ?_
        refine rj_icmp_gt (pc := 24) (tgt := 56) dX2_readFigures_24 (by decide) (by first | exact b01_r | exact bz_r | omega | (constructor <;> omega) | apply_assumption | (apply atF_r; assumption) | fail "no range") (by first | exact b01_r | exact bz_r | omega | (constructor <;> omega) | apply_assumption | (apply atF_r; assumption) | fail "no range") (fun c_24 => ?_) (fun c_24 => ?_)
        · have hcc : ¬ (48 ≤ hereC p z f ∧ hereC p z f ≤ 57) := by omega
          have y := K h_19 t (by rw [rfL, if_neg hcc]; exact hD) (by rw [rfL, if_neg hcc]; dsimp only; omega) Same.refl
          rw [rfL, if_neg hcc] at y
          exact y
        · refine r_iload_n (pc := 27) dX2_readFigures_27 rfl ?_
          refine rj_bipush (pc := 28) dX2_readFigures_28 (by decide +kernel) ?_
          refine rj_imul (pc := 30) dX2_readFigures_30 ?_
          refine r_aload_n (pc := 31) dX2_readFigures_31 rfl (by first | rfl | exact isRefV_rf _) ?_
          refine r_callV0 (pc := 32) dX2_readFigures_32 qX2_here kX2_34 vX2_here (by first | assumption | exact isI.gx (by assumption) | exact isI.gc (by assumption) | exact isW.gx (by assumption) | exact isW.gF (by assumption) | exact isW.gT (by assumption) (by omega) | exact isW.gS (by assumption) (by omega) | exact isW.gK (by assumption) (by omega) | exact isW.g1 (by assumption) | exact isW.g2 (by assumption) | exact isW.g3 (by assumption) | exact isI.gx (isW.i0 (by assumption)) | exact isI.gc (isW.i0 (by assumption)) | exact isI.gx (isW.i1 (by assumption)) | exact isI.gc (isW.i1 (by assumption)) | exact isI.gx (isW.i2 (by assumption)) | exact isI.gc (isW.i2 (by assumption)) | exact isI.gx (isW.i3 (by assumption)) | exact isI.gc (isW.i3 (by assumption)) | exact isI.gx (isW.i4 (by assumption)) | exact isI.gc (isW.i4 (by assumption)) | exact isI.gx (isW.i5 (by assumption)) | exact isI.gc (isW.i5 (by assumption)) | exact isR.gx (by assumption) | exact isRd.gx (by assumption) | exact isSp.gx (by assumption) | exact isI.gx (isR.i (by assumption)) | exact isI.gx (isRd.i (by assumption)) | exact isI.gc (isRd.i (by assumption)) | exact isI.gx (isSp.i (by assumption)) | exact isW.gx (isR.w (by assumption)) | exact isW.gF (isR.w (by assumption)) | fail "no such object") rfl rfl (Nat.le_of_ble_eq_true rfl) (cd_here _ hD ⟨by omega, by omega⟩ he ho hz hf) (fun v_32 h_32 q_32 => ?_)
          obtain ⟨rfl, rfl⟩ := q_32
          refine rj_iadd (pc := 35) dX2_readFigures_35 ?_
          refine rj_bipush (pc := 36) dX2_readFigures_36 (by decide +kernel) ?_
          refine rj_isub (pc := 38) dX2_readFigures_38 ?_
          refine r_istore_n (pc := 39) dX2_readFigures_39 (Nat.le_of_ble_eq_true rfl) ?_
          dsimp only [lsSt, List.set, mLs, mEnt]
          refine r_aload_n (pc := 40) dX2_readFigures_40 rfl (by first | rfl | exact isRefV_rf _) ?_
          refine r_dup (pc := 41) dX2_readFigures_41 (by first | rfl | (cases ‹Option Nat› <;> rfl)) ?_
          refine r_getf (pc := 42) dX2_readFigures_42 fX2_53 (by first | assumption | exact isI.gx (by assumption) | exact isI.gc (by assumption) | exact isW.gx (by assumption) | exact isW.gF (by assumption) | exact isW.gT (by assumption) (by omega) | exact isW.gS (by assumption) (by omega) | exact isW.gK (by assumption) (by omega) | exact isW.g1 (by assumption) | exact isW.g2 (by assumption) | exact isW.g3 (by assumption) | exact isI.gx (isW.i0 (by assumption)) | exact isI.gc (isW.i0 (by assumption)) | exact isI.gx (isW.i1 (by assumption)) | exact isI.gc (isW.i1 (by assumption)) | exact isI.gx (isW.i2 (by assumption)) | exact isI.gc (isW.i2 (by assumption)) | exact isI.gx (isW.i3 (by assumption)) | exact isI.gc (isW.i3 (by assumption)) | exact isI.gx (isW.i4 (by assumption)) | exact isI.gc (isW.i4 (by assumption)) | exact isI.gx (isW.i5 (by assumption)) | exact isI.gc (isW.i5 (by assumption)) | exact isR.gx (by assumption) | exact isRd.gx (by assumption) | exact isSp.gx (by assumption) | exact isI.gx (isR.i (by assumption)) | exact isI.gx (isRd.i (by assumption)) | exact isI.gc (isRd.i (by assumption)) | exact isI.gx (isSp.i (by assumption)) | exact isW.gx (isR.w (by assumption)) | exact isW.gF (isR.w (by assumption)) | fail "no such object") (by rfl) ?_
          refine rj_iconst (pc := 45) dX2_readFigures_45 ?_
          refine rj_iadd (pc := 46) dX2_readFigures_46 ?_
          refine rc_putD1 (pc := 47) dX2_readFigures_47 fX2_53 (by assumption) (fun h_47 hW_47 hS_47 => ?_)
          refine rj_iinc (pc := 50) dX2_readFigures_50 (Nat.le_of_ble_eq_true rfl) rfl ?_
          dsimp only [lsSt, List.set, mLs, mEnt]
          refine r_goto (pc := 53) (tgt := 4) dX2_readFigures_53 (by decide) ?_
          have hcc : 48 ≤ hereC p z f ∧ hereC p z f ≤ 57 := ⟨by omega, by omega⟩
          have y := ih (t + 1) (p + 1) (u * 10 + hereC p z f - 48) h_47 hW_47 (by omega) (by omega) (fun h' t' a1 a2 a3 => by
            have y := K h' t' (by rw [rfL, if_pos hcc]; exact a1) (by rw [rfL, if_pos hcc]; omega) (hS_47.trans a3)
            rw [rfL, if_pos hcc] at y
            exact y)
          rw [show ((t + 1 : Nat) : Int) = (t : Int) + 1 by omega] at y
          exact y
end mg_9k

section mg_9k
set_option maxHeartbeats 4000000 in
set_option maxRecDepth 100000 in
theorem rd_value {G : mG} {l : Launch} (d : Nat) {h : mH} {a : Nat} {p e o z : Int} {f : Nat → Int} (hD : isRd h a p e o z f) (hp : InR p) (he : InR e) (ho : InR o) (hz : InR z) (hf : ∀ q, InR (f q)) (hp0 : 0 ≤ p ∧ p + 30 ≤ 1000) : RUNM G l (d + 2) mX2_readValue [.ref a] h (fun v h' => v = some (.int (J (rvV p z f))) ∧ ((mnP p z f < (rfL z f 5 (mnP p z f) 0).2 ∧ isRd h' a (rfL z f 5 (mnP p z f) 0).2 e o z f) ∨ ((rfL z f 5 (mnP p z f) 0).2 = mnP p z f ∧ isRd h' a z (ftE e (mnP p z f)) o z f)) ∧ Same (dBlk a) h h') := by
  refine RUNM.of (by decide +kernel) (Nat.le_of_ble_eq_true rfl) ?_
  refine r_aload_n (pc := 0) dX2_readValue_0 rfl (by first | rfl | exact isRefV_rf _) ?_
  refine r_callV0 (pc := 1) dX2_readValue_1 qX2_here kX2_34 vX2_here (by first | assumption | exact isI.gx (by assumption) | exact isI.gc (by assumption) | exact isW.gx (by assumption) | exact isW.gF (by assumption) | exact isW.gT (by assumption) (by omega) | exact isW.gS (by assumption) (by omega) | exact isW.gK (by assumption) (by omega) | exact isW.g1 (by assumption) | exact isW.g2 (by assumption) | exact isW.g3 (by assumption) | exact isI.gx (isW.i0 (by assumption)) | exact isI.gc (isW.i0 (by assumption)) | exact isI.gx (isW.i1 (by assumption)) | exact isI.gc (isW.i1 (by assumption)) | exact isI.gx (isW.i2 (by assumption)) | exact isI.gc (isW.i2 (by assumption)) | exact isI.gx (isW.i3 (by assumption)) | exact isI.gc (isW.i3 (by assumption)) | exact isI.gx (isW.i4 (by assumption)) | exact isI.gc (isW.i4 (by assumption)) | exact isI.gx (isW.i5 (by assumption)) | exact isI.gc (isW.i5 (by assumption)) | exact isR.gx (by assumption) | exact isRd.gx (by assumption) | exact isSp.gx (by assumption) | exact isI.gx (isR.i (by assumption)) | exact isI.gx (isRd.i (by assumption)) | exact isI.gc (isRd.i (by assumption)) | exact isI.gx (isSp.i (by assumption)) | exact isW.gx (isR.w (by assumption)) | exact isW.gF (isR.w (by assumption)) | fail "no such object") rfl rfl (Nat.le_of_ble_eq_true rfl) (cd_here _ hD hp he ho hz hf) (fun v_1 h_1 q_1 => ?_)
  obtain ⟨rfl, rfl⟩ := q_1
  have rh := hereC_r (p := p) (z := z) hf
  refine rj_bipush (pc := 4) dX2_readValue_4 (by decide +kernel) ?_
  refine rj_icmp_ne (pc := 6) (tgt := 13) dX2_readValue_6 (by decide) (by first | exact b01_r | exact bz_r | omega | (constructor <;> omega) | apply_assumption | (apply atF_r; assumption) | fail "no range") (by first | exact b01_r | exact bz_r | omega | (constructor <;> omega) | apply_assumption | (apply atF_r; assumption) | fail "no range") (fun c_6 => ?_) (fun c_6 => ?_)
  · refine rj_iconst (pc := 13) dX2_readValue_13 ?_
    refine r_istore_n (pc := 14) dX2_readValue_14 (Nat.le_of_ble_eq_true rfl) ?_
    dsimp only [lsSt, List.set, mLs, mEnt]
    refine r_iload_n (pc := 15) dX2_readValue_15 rfl ?_
    refine rj_if_eq (pc := 16) (tgt := 29) dX2_readValue_16 (by decide) (by first | exact b01_r | exact bz_r | omega | (constructor <;> omega) | apply_assumption | (apply atF_r; assumption) | fail "no range") (fun c_16 => ?_) (fun c_16 => ?_)
    · try simp only [b01_0, bz_0, Classical.not_not] at c_16
      refine r_aload_n (pc := 29) dX2_readValue_29 rfl (by first | rfl | exact isRefV_rf _) ?_
      refine rj_iconst (pc := 30) dX2_readValue_30 ?_
      refine r_callV1 (pc := 31) dX2_readValue_31 qX2_readFigures kX2_100 vX2_readFigures (by first | assumption | exact isI.gx (by assumption) | exact isI.gc (by assumption) | exact isW.gx (by assumption) | exact isW.gF (by assumption) | exact isW.gT (by assumption) (by omega) | exact isW.gS (by assumption) (by omega) | exact isW.gK (by assumption) (by omega) | exact isW.g1 (by assumption) | exact isW.g2 (by assumption) | exact isW.g3 (by assumption) | exact isI.gx (isW.i0 (by assumption)) | exact isI.gc (isW.i0 (by assumption)) | exact isI.gx (isW.i1 (by assumption)) | exact isI.gc (isW.i1 (by assumption)) | exact isI.gx (isW.i2 (by assumption)) | exact isI.gc (isW.i2 (by assumption)) | exact isI.gx (isW.i3 (by assumption)) | exact isI.gc (isW.i3 (by assumption)) | exact isI.gx (isW.i4 (by assumption)) | exact isI.gc (isW.i4 (by assumption)) | exact isI.gx (isW.i5 (by assumption)) | exact isI.gc (isW.i5 (by assumption)) | exact isR.gx (by assumption) | exact isRd.gx (by assumption) | exact isSp.gx (by assumption) | exact isI.gx (isR.i (by assumption)) | exact isI.gx (isRd.i (by assumption)) | exact isI.gc (isRd.i (by assumption)) | exact isI.gx (isSp.i (by assumption)) | exact isW.gx (isR.w (by assumption)) | exact isW.gF (isR.w (by assumption)) | fail "no such object") rfl rfl (Nat.le_of_ble_eq_true rfl) (rd_figures _ hD ⟨by omega, by omega⟩ he ho hz hf (by omega) (m := 5) (by omega)) (fun v_31 h_31 q_31 => ?_)
      obtain ⟨rfl, D_31, S_31⟩ := q_31
      refine r_istore_n (pc := 34) dX2_readValue_34 (Nat.le_of_ble_eq_true rfl) ?_
      dsimp only [lsSt, List.set, mLs, mEnt]
      refine r_iload_n (pc := 35) dX2_readValue_35 rfl ?_
      refine rj_if_eq (pc := 36) (tgt := 44) dX2_readValue_36 (by decide) (by first | exact b01_r | exact bz_r | omega | (constructor <;> omega) | apply_assumption | (apply atF_r; assumption) | fail "no range") (fun c_36 => ?_) (fun c_36 => ?_)
      · try simp only [b01_0, bz_0, Classical.not_not] at c_36
        refine r_iload_n (pc := 44) dX2_readValue_44 rfl ?_
        refine r_ireturn (pc := 45) .int dX2_readValue_45 rfl (by first | rfl | assumption) ?_
        first | (have em : mnP p z f = p + 1 := (by unfold mnP; rw [if_pos (by assumption)]); rw [em]; exact ⟨by unfold rvV; rw [if_pos (by assumption), em], D_31, hS_26.trans S_31⟩) | (have em : mnP p z f = p := (by unfold mnP; rw [if_neg (by assumption)]); rw [em]; exact ⟨by unfold rvV; rw [if_neg (by assumption), em], D_31, S_31⟩)
      · try simp only [b01_0, bz_0, Classical.not_not] at c_36
        all_goals (first | exact absurd trivial ‹¬ True› | (exfalso; omega))
    · try simp only [b01_0, bz_0, Classical.not_not] at c_16
      all_goals (first | exact absurd trivial ‹¬ True› | (exfalso; omega))
  · refine rj_iconst (pc := 9) dX2_readValue_9 ?_
    refine r_goto (pc := 10) (tgt := 14) dX2_readValue_10 (by decide) ?_
    refine r_istore_n (pc := 14) dX2_readValue_14 (Nat.le_of_ble_eq_true rfl) ?_
    dsimp only [lsSt, List.set, mLs, mEnt]
    refine r_iload_n (pc := 15) dX2_readValue_15 rfl ?_
    refine rj_if_eq (pc := 16) (tgt := 29) dX2_readValue_16 (by decide) (by first | exact b01_r | exact bz_r | omega | (constructor <;> omega) | apply_assumption | (apply atF_r; assumption) | fail "no range") (fun c_16 => ?_) (fun c_16 => ?_)
    · try simp only [b01_0, bz_0, Classical.not_not] at c_16
      all_goals (first | exact absurd trivial ‹¬ True› | (exfalso; omega))
    · try simp only [b01_0, bz_0, Classical.not_not] at c_16
      refine r_aload_n (pc := 19) dX2_readValue_19 rfl (by first | rfl | exact isRefV_rf _) ?_
      refine r_dup (pc := 20) dX2_readValue_20 (by first | rfl | (cases ‹Option Nat› <;> rfl)) ?_
      refine r_getf (pc := 21) dX2_readValue_21 fX2_53 (by first | assumption | exact isI.gx (by assumption) | exact isI.gc (by assumption) | exact isW.gx (by assumption) | exact isW.gF (by assumption) | exact isW.gT (by assumption) (by omega) | exact isW.gS (by assumption) (by omega) | exact isW.gK (by assumption) (by omega) | exact isW.g1 (by assumption) | exact isW.g2 (by assumption) | exact isW.g3 (by assumption) | exact isI.gx (isW.i0 (by assumption)) | exact isI.gc (isW.i0 (by assumption)) | exact isI.gx (isW.i1 (by assumption)) | exact isI.gc (isW.i1 (by assumption)) | exact isI.gx (isW.i2 (by assumption)) | exact isI.gc (isW.i2 (by assumption)) | exact isI.gx (isW.i3 (by assumption)) | exact isI.gc (isW.i3 (by assumption)) | exact isI.gx (isW.i4 (by assumption)) | exact isI.gc (isW.i4 (by assumption)) | exact isI.gx (isW.i5 (by assumption)) | exact isI.gc (isW.i5 (by assumption)) | exact isR.gx (by assumption) | exact isRd.gx (by assumption) | exact isSp.gx (by assumption) | exact isI.gx (isR.i (by assumption)) | exact isI.gx (isRd.i (by assumption)) | exact isI.gc (isRd.i (by assumption)) | exact isI.gx (isSp.i (by assumption)) | exact isW.gx (isR.w (by assumption)) | exact isW.gF (isR.w (by assumption)) | fail "no such object") (by rfl) ?_
      refine rj_iconst (pc := 24) dX2_readValue_24 ?_
      refine rj_iadd (pc := 25) dX2_readValue_25 ?_
      refine rc_putD1 (pc := 26) dX2_readValue_26 fX2_53 (by assumption) (fun h_26 hW_26 hS_26 => ?_)
      refine r_aload_n (pc := 29) dX2_readValue_29 rfl (by first | rfl | exact isRefV_rf _) ?_
      refine rj_iconst (pc := 30) dX2_readValue_30 ?_
      refine r_callV1 (pc := 31) dX2_readValue_31 qX2_readFigures kX2_100 vX2_readFigures (by first | assumption | exact isI.gx (by assumption) | exact isI.gc (by assumption) | exact isW.gx (by assumption) | exact isW.gF (by assumption) | exact isW.gT (by assumption) (by omega) | exact isW.gS (by assumption) (by omega) | exact isW.gK (by assumption) (by omega) | exact isW.g1 (by assumption) | exact isW.g2 (by assumption) | exact isW.g3 (by assumption) | exact isI.gx (isW.i0 (by assumption)) | exact isI.gc (isW.i0 (by assumption)) | exact isI.gx (isW.i1 (by assumption)) | exact isI.gc (isW.i1 (by assumption)) | exact isI.gx (isW.i2 (by assumption)) | exact isI.gc (isW.i2 (by assumption)) | exact isI.gx (isW.i3 (by assumption)) | exact isI.gc (isW.i3 (by assumption)) | exact isI.gx (isW.i4 (by assumption)) | exact isI.gc (isW.i4 (by assumption)) | exact isI.gx (isW.i5 (by assumption)) | exact isI.gc (isW.i5 (by assumption)) | exact isR.gx (by assumption) | exact isRd.gx (by assumption) | exact isSp.gx (by assumption) | exact isI.gx (isR.i (by assumption)) | exact isI.gx (isRd.i (by assumption)) | exact isI.gc (isRd.i (by assumption)) | exact isI.gx (isSp.i (by assumption)) | exact isW.gx (isR.w (by assumption)) | exact isW.gF (isR.w (by assumption)) | fail "no such object") rfl rfl (Nat.le_of_ble_eq_true rfl) (rd_figures _ hW_26 ⟨by omega, by omega⟩ he ho hz hf (by omega) (m := 5) (by omega)) (fun v_31 h_31 q_31 => ?_)
      obtain ⟨rfl, D_31, S_31⟩ := q_31
      refine r_istore_n (pc := 34) dX2_readValue_34 (Nat.le_of_ble_eq_true rfl) ?_
      dsimp only [lsSt, List.set, mLs, mEnt]
      refine r_iload_n (pc := 35) dX2_readValue_35 rfl ?_
      refine rj_if_eq (pc := 36) (tgt := 44) dX2_readValue_36 (by decide) (by first | exact b01_r | exact bz_r | omega | (constructor <;> omega) | apply_assumption | (apply atF_r; assumption) | fail "no range") (fun c_36 => ?_) (fun c_36 => ?_)
      · try simp only [b01_0, bz_0, Classical.not_not] at c_36
        all_goals (first | exact absurd trivial ‹¬ True› | (exfalso; omega))
      · try simp only [b01_0, bz_0, Classical.not_not] at c_36
        refine r_iload_n (pc := 39) dX2_readValue_39 rfl ?_
        refine rj_ineg (pc := 40) dX2_readValue_40 ?_
        refine r_goto (pc := 41) (tgt := 45) dX2_readValue_41 (by decide) ?_
        refine r_ireturn (pc := 45) .int dX2_readValue_45 rfl (by first | rfl | assumption) ?_
        first | (have em : mnP p z f = p + 1 := (by unfold mnP; rw [if_pos (by assumption)]); rw [em]; exact ⟨by unfold rvV; rw [if_pos (by assumption), em], D_31, hS_26.trans S_31⟩) | (have em : mnP p z f = p := (by unfold mnP; rw [if_neg (by assumption)]); rw [em]; exact ⟨by unfold rvV; rw [if_neg (by assumption), em], D_31, S_31⟩)
end mg_9k

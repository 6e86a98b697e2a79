/-! ===== the class: its reader before an empty tape ===== -/
set_option maxHeartbeats 4000000 in
set_option maxRecDepth 100000 in
theorem cd_begin {G : mG} {l : Launch} (d : Nat) {h : mH} {a : Nat} {p e o z : Int} {f : Nat → Int} (hD : isRd h a p e o z f) : RUNM G l (d) mX2_begin [.ref a] h (fun v h' => v = none ∧ isRd h' a 0 (-1) 0 z f ∧ Same (dBlk a) h h') := by
  refine RUNM.of (by decide +kernel) (Nat.le_of_ble_eq_true rfl) ?_
  refine r_aload_n (pc := 0) dX2_begin_0 rfl (by first | rfl | exact isRefV_rf _) ?_
  refine rj_iconst (pc := 1) dX2_begin_1 ?_
  refine rc_putD1 (pc := 2) dX2_begin_2 fX2_53 (by assumption) (fun h_2 hW_2 hS_2 => ?_)
  refine r_aload_n (pc := 5) dX2_begin_5 rfl (by first | rfl | exact isRefV_rf _) ?_
  refine rj_iconst (pc := 6) dX2_begin_6 ?_
  refine rc_putD2 (pc := 7) dX2_begin_7 fX2_49 (by assumption) (fun h_7 hW_7 hS_7 => ?_)
  refine r_aload_n (pc := 10) dX2_begin_10 rfl (by first | rfl | exact isRefV_rf _) ?_
  refine rj_iconst (pc := 11) dX2_begin_11 ?_
  refine rc_putD3 (pc := 12) dX2_begin_12 fX2_59 (by assumption) (fun h_12 hW_12 hS_12 => ?_)
  refine r_return (pc := 15) dX2_begin_15 rfl ?_
  exact ⟨rfl, hW_12, (hS_2.trans hS_7).trans hS_12⟩
def hereC (p z : Int) (f : Nat → Int) : Int := if 0 ≤ p ∧ p < z ∧ p < 120 then f p.toNat else -1
set_option maxHeartbeats 4000000 in
set_option maxRecDepth 100000 in
theorem cd_here {G : mG} {l : Launch} (d : Nat) {h : mH} {a : Nat} {p e o z : Int} {f : Nat → Int} (hD : isRd h a p e o z f) (hp : InR p) (he : InR e) (ho : InR o) (hz : InR z) (hf : ∀ q, InR (f q)) : RUNM G l (d) mX2_here [.ref a] h (fun v h' => v = some (.int (J (hereC p z f))) ∧ h' = h) := by
  refine RUNM.of (by decide +kernel) (Nat.le_of_ble_eq_true rfl) ?_
  refine r_aload_n (pc := 0) dX2_here_0 rfl (by first | rfl | exact isRefV_rf _) ?_
  refine r_getf (pc := 1) dX2_here_1 fX2_53 (by first | assumption | exact isI.gx (by assumption) | exact isI.gc (by assumption) | exact isW.gx (by assumption) | exact isW.gF (by assumption) | exact isW.gT (by assumption) (by omega) | exact isW.gS (by assumption) (by omega) | exact isW.gK (by assumption) (by omega) | exact isW.g1 (by assumption) | exact isW.g2 (by assumption) | exact isW.g3 (by assumption) | exact isI.gx (isW.i0 (by assumption)) | exact isI.gc (isW.i0 (by assumption)) | exact isI.gx (isW.i1 (by assumption)) | exact isI.gc (isW.i1 (by assumption)) | exact isI.gx (isW.i2 (by assumption)) | exact isI.gc (isW.i2 (by assumption)) | exact isI.gx (isW.i3 (by assumption)) | exact isI.gc (isW.i3 (by assumption)) | exact isI.gx (isW.i4 (by assumption)) | exact isI.gc (isW.i4 (by assumption)) | exact isI.gx (isW.i5 (by assumption)) | exact isI.gc (isW.i5 (by assumption)) | exact isR.gx (by assumption) | exact isRd.gx (by assumption) | exact isSp.gx (by assumption) | exact isI.gx (isR.i (by assumption)) | exact isI.gx (isRd.i (by assumption)) | exact isI.gc (isRd.i (by assumption)) | exact isI.gx (isSp.i (by assumption)) | exact isW.gx (isR.w (by assumption)) | exact isW.gF (isR.w (by assumption)) | fail "no such object") (by rfl) ?_
  refine rj_if_lt (pc := 4) (tgt := 40) dX2_here_4 (by decide) (by first | exact b01_r | exact bz_r | omega | (constructor <;> omega) | apply_assumption | (apply atF_r; assumption) | fail "no range") (fun c_4 => ?_) (fun c_4 => ?_)
  · refine rj_iconst (pc := 40) dX2_here_40 ?_
    refine r_istore_n (pc := 41) dX2_here_41 (Nat.le_of_ble_eq_true rfl) ?_
    dsimp only [lsSt, List.set, mLs, mEnt]
    refine r_iload_n (pc := 42) dX2_here_42 rfl ?_
    refine rj_if_eq (pc := 43) (tgt := 61) dX2_here_43 (by decide) (by first | exact b01_r | exact bz_r | omega | (constructor <;> omega) | apply_assumption | (apply atF_r; assumption) | fail "no range") (fun c_43 => ?_) (fun c_43 => ?_)
    · try simp only [b01_0, bz_0, Classical.not_not] at c_43
      refine rj_iconst (pc := 61) dX2_here_61 ?_
      refine r_ireturn (pc := 62) .int dX2_here_62 rfl (by first | rfl | assumption) ?_
      first
      | exact ⟨by unfold hereC; rw [if_pos (by omega)], rfl⟩
      | exact ⟨by unfold hereC; rw [if_neg (by omega)], rfl⟩
    · try simp only [b01_0, bz_0, Classical.not_not] at c_43
      exfalso
      first | omega | exact absurd trivial ‹¬ True›
  · refine r_aload_n (pc := 7) dX2_here_7 rfl (by first | rfl | exact isRefV_rf _) ?_
    refine r_getf (pc := 8) dX2_here_8 fX2_53 (by first | assumption | exact isI.gx (by assumption) | exact isI.gc (by assumption) | exact isW.gx (by assumption) | exact isW.gF (by assumption) | exact isW.gT (by assumption) (by omega) | exact isW.gS (by assumption) (by omega) | exact isW.gK (by assumption) (by omega) | exact isW.g1 (by assumption) | exact isW.g2 (by assumption) | exact isW.g3 (by assumption) | exact isI.gx (isW.i0 (by assumption)) | exact isI.gc (isW.i0 (by assumption)) | exact isI.gx (isW.i1 (by assumption)) | exact isI.gc (isW.i1 (by assumption)) | exact isI.gx (isW.i2 (by assumption)) | exact isI.gc (isW.i2 (by assumption)) | exact isI.gx (isW.i3 (by assumption)) | exact isI.gc (isW.i3 (by assumption)) | exact isI.gx (isW.i4 (by assumption)) | exact isI.gc (isW.i4 (by assumption)) | exact isI.gx (isW.i5 (by assumption)) | exact isI.gc (isW.i5 (by assumption)) | exact isR.gx (by assumption) | exact isRd.gx (by assumption) | exact isSp.gx (by assumption) | exact isI.gx (isR.i (by assumption)) | exact isI.gx (isRd.i (by assumption)) | exact isI.gc (isRd.i (by assumption)) | exact isI.gx (isSp.i (by assumption)) | exact isW.gx (isR.w (by assumption)) | exact isW.gF (isR.w (by assumption)) | fail "no such object") (by rfl) ?_
    refine r_aload_n (pc := 11) dX2_here_11 rfl (by first | rfl | exact isRefV_rf _) ?_
    refine r_getf (pc := 12) dX2_here_12 fX2_14 (by first | assumption | exact isI.gx (by assumption) | exact isI.gc (by assumption) | exact isW.gx (by assumption) | exact isW.gF (by assumption) | exact isW.gT (by assumption) (by omega) | exact isW.gS (by assumption) (by omega) | exact isW.gK (by assumption) (by omega) | exact isW.g1 (by assumption) | exact isW.g2 (by assumption) | exact isW.g3 (by assumption) | exact isI.gx (isW.i0 (by assumption)) | exact isI.gc (isW.i0 (by assumption)) | exact isI.gx (isW.i1 (by assumption)) | exact isI.gc (isW.i1 (by assumption)) | exact isI.gx (isW.i2 (by assumption)) | exact isI.gc (isW.i2 (by assumption)) | exact isI.gx (isW.i3 (by assumption)) | exact isI.gc (isW.i3 (by assumption)) | exact isI.gx (isW.i4 (by assumption)) | exact isI.gc (isW.i4 (by assumption)) | exact isI.gx (isW.i5 (by assumption)) | exact isI.gc (isW.i5 (by assumption)) | exact isR.gx (by assumption) | exact isRd.gx (by assumption) | exact isSp.gx (by assumption) | exact isI.gx (isR.i (by assumption)) | exact isI.gx (isRd.i (by assumption)) | exact isI.gc (isRd.i (by assumption)) | exact isI.gx (isSp.i (by assumption)) | exact isW.gx (isR.w (by assumption)) | exact isW.gF (isR.w (by assumption)) | fail "no such object") (by rfl) ?_
    refine r_getf (pc := 15) dX2_here_15 fX2_62 (by first | assumption | exact isI.gx (by assumption) | exact isI.gc (by assumption) | exact isW.gx (by assumption) | exact isW.gF (by assumption) | exact isW.gT (by assumption) (by omega) | exact isW.gS (by assumption) (by omega) | exact isW.gK (by assumption) (by omega) | exact isW.g1 (by assumption) | exact isW.g2 (by assumption) | exact isW.g3 (by assumption) | exact isI.gx (isW.i0 (by assumption)) | exact isI.gc (isW.i0 (by assumption)) | exact isI.gx (isW.i1 (by assumption)) | exact isI.gc (isW.i1 (by assumption)) | exact isI.gx (isW.i2 (by assumption)) | exact isI.gc (isW.i2 (by assumption)) | exact isI.gx (isW.i3 (by assumption)) | exact isI.gc (isW.i3 (by assumption)) | exact isI.gx (isW.i4 (by assumption)) | exact isI.gc (isW.i4 (by assumption)) | exact isI.gx (isW.i5 (by assumption)) | exact isI.gc (isW.i5 (by assumption)) | exact isR.gx (by assumption) | exact isRd.gx (by assumption) | exact isSp.gx (by assumption) | exact isI.gx (isR.i (by assumption)) | exact isI.gx (isRd.i (by assumption)) | exact isI.gc (isRd.i (by assumption)) | exact isI.gx (isSp.i (by assumption)) | exact isW.gx (isR.w (by assumption)) | exact isW.gF (isR.w (by assumption)) | fail "no such object") (by rfl) ?_
    refine rj_icmp_ge (pc := 18) (tgt := 40) dX2_here_18 (by decide) (by first | exact b01_r | exact bz_r | omega | (constructor <;> omega) | apply_assumption | (apply atF_r; assumption) | fail "no range") (by first | exact b01_r | exact bz_r | omega | (constructor <;> omega) | apply_assumption | (apply atF_r; assumption) | fail "no range") (fun c_18 => ?_) (fun c_18 => ?_)
    · refine rj_iconst (pc := 40) dX2_here_40 ?_
      refine r_istore_n (pc := 41) dX2_here_41 (Nat.le_of_ble_eq_true rfl) ?_
      dsimp only [lsSt, List.set, mLs, mEnt]
      refine r_iload_n (pc := 42) dX2_here_42 rfl ?_
      refine rj_if_eq (pc := 43) (tgt := 61) dX2_here_43 (by decide) (by first | exact b01_r | exact bz_r | omega | (constructor <;> omega) | apply_assumption | (apply atF_r; assumption) | fail "no range") (fun c_43 => ?_) (fun c_43 => ?_)
      · try simp only [b01_0, bz_0, Classical.not_not] at c_43
        refine rj_iconst (pc := 61) dX2_here_61 ?_
        refine r_ireturn (pc := 62) .int dX2_here_62 rfl (by first | rfl | assumption) ?_
        first
        | exact ⟨by unfold hereC; rw [if_pos (by omega)], rfl⟩
        | exact ⟨by unfold hereC; rw [if_neg (by omega)], rfl⟩
      · try simp only [b01_0, bz_0, Classical.not_not] at c_43
        exfalso
        first | omega | exact absurd trivial ‹¬ True›
    · refine r_aload_n (pc := 21) dX2_here_21 rfl (by first | rfl | exact isRefV_rf _) ?_
      refine r_getf (pc := 22) dX2_here_22 fX2_53 (by first | assumption | exact isI.gx (by assumption) | exact isI.gc (by assumption) | exact isW.gx (by assumption) | exact isW.gF (by assumption) | exact isW.gT (by assumption) (by omega) | exact isW.gS (by assumption) (by omega) | exact isW.gK (by assumption) (by omega) | exact isW.g1 (by assumption) | exact isW.g2 (by assumption) | exact isW.g3 (by assumption) | exact isI.gx (isW.i0 (by assumption)) | exact isI.gc (isW.i0 (by assumption)) | exact isI.gx (isW.i1 (by assumption)) | exact isI.gc (isW.i1 (by assumption)) | exact isI.gx (isW.i2 (by assumption)) | exact isI.gc (isW.i2 (by assumption)) | exact isI.gx (isW.i3 (by assumption)) | exact isI.gc (isW.i3 (by assumption)) | exact isI.gx (isW.i4 (by assumption)) | exact isI.gc (isW.i4 (by assumption)) | exact isI.gx (isW.i5 (by assumption)) | exact isI.gc (isW.i5 (by assumption)) | exact isR.gx (by assumption) | exact isRd.gx (by assumption) | exact isSp.gx (by assumption) | exact isI.gx (isR.i (by assumption)) | exact isI.gx (isRd.i (by assumption)) | exact isI.gc (isRd.i (by assumption)) | exact isI.gx (isSp.i (by assumption)) | exact isW.gx (isR.w (by assumption)) | exact isW.gF (isR.w (by assumption)) | fail "no such object") (by rfl) ?_
      refine r_aload_n (pc := 25) dX2_here_25 rfl (by first | rfl | exact isRefV_rf _) ?_
      refine r_getf (pc := 26) dX2_here_26 fX2_14 (by first | assumption | exact isI.gx (by assumption) | exact isI.gc (by assumption) | exact isW.gx (by assumption) | exact isW.gF (by assumption) | exact isW.gT (by assumption) (by omega) | exact isW.gS (by assumption) (by omega) | exact isW.gK (by assumption) (by omega) | exact isW.g1 (by assumption) | exact isW.g2 (by assumption) | exact isW.g3 (by assumption) | exact isI.gx (isW.i0 (by assumption)) | exact isI.gc (isW.i0 (by assumption)) | exact isI.gx (isW.i1 (by assumption)) | exact isI.gc (isW.i1 (by assumption)) | exact isI.gx (isW.i2 (by assumption)) | exact isI.gc (isW.i2 (by assumption)) | exact isI.gx (isW.i3 (by assumption)) | exact isI.gc (isW.i3 (by assumption)) | exact isI.gx (isW.i4 (by assumption)) | exact isI.gc (isW.i4 (by assumption)) | exact isI.gx (isW.i5 (by assumption)) | exact isI.gc (isW.i5 (by assumption)) | exact isR.gx (by assumption) | exact isRd.gx (by assumption) | exact isSp.gx (by assumption) | exact isI.gx (isR.i (by assumption)) | exact isI.gx (isRd.i (by assumption)) | exact isI.gc (isRd.i (by assumption)) | exact isI.gx (isSp.i (by assumption)) | exact isW.gx (isR.w (by assumption)) | exact isW.gF (isR.w (by assumption)) | fail "no such object") (by rfl) ?_
      refine r_getf (pc := 29) dX2_here_29 fX2_65 (by first | assumption | exact isI.gx (by assumption) | exact isI.gc (by assumption) | exact isW.gx (by assumption) | exact isW.gF (by assumption) | exact isW.gT (by assumption) (by omega) | exact isW.gS (by assumption) (by omega) | exact isW.gK (by assumption) (by omega) | exact isW.g1 (by assumption) | exact isW.g2 (by assumption) | exact isW.g3 (by assumption) | exact isI.gx (isW.i0 (by assumption)) | exact isI.gc (isW.i0 (by assumption)) | exact isI.gx (isW.i1 (by assumption)) | exact isI.gc (isW.i1 (by assumption)) | exact isI.gx (isW.i2 (by assumption)) | exact isI.gc (isW.i2 (by assumption)) | exact isI.gx (isW.i3 (by assumption)) | exact isI.gc (isW.i3 (by assumption)) | exact isI.gx (isW.i4 (by assumption)) | exact isI.gc (isW.i4 (by assumption)) | exact isI.gx (isW.i5 (by assumption)) | exact isI.gc (isW.i5 (by assumption)) | exact isR.gx (by assumption) | exact isRd.gx (by assumption) | exact isSp.gx (by assumption) | exact isI.gx (isR.i (by assumption)) | exact isI.gx (isRd.i (by assumption)) | exact isI.gc (isRd.i (by assumption)) | exact isI.gx (isSp.i (by assumption)) | exact isW.gx (isR.w (by assumption)) | exact isW.gF (isR.w (by assumption)) | fail "no such object") (by rfl) ?_
      first | refine rj_alen (pc := 32) dX2_here_32 (by first | assumption | exact isI.gx (by assumption) | exact isI.gc (by assumption) | exact isW.gx (by assumption) | exact isW.gF (by assumption) | exact isW.gT (by assumption) (by omega) | exact isW.gS (by assumption) (by omega) | exact isW.gK (by assumption) (by omega) | exact isW.g1 (by assumption) | exact isW.g2 (by assumption) | exact isW.g3 (by assumption) | exact isI.gx (isW.i0 (by assumption)) | exact isI.gc (isW.i0 (by assumption)) | exact isI.gx (isW.i1 (by assumption)) | exact isI.gc (isW.i1 (by assumption)) | exact isI.gx (isW.i2 (by assumption)) | exact isI.gc (isW.i2 (by assumption)) | exact isI.gx (isW.i3 (by assumption)) | exact isI.gc (isW.i3 (by assumption)) | exact isI.gx (isW.i4 (by assumption)) | exact isI.gc (isW.i4 (by assumption)) | exact isI.gx (isW.i5 (by assumption)) | exact isI.gc (isW.i5 (by assumption)) | exact isR.gx (by assumption) | exact isRd.gx (by assumption) | exact isSp.gx (by assumption) | exact isI.gx (isR.i (by assumption)) | exact isI.gx (isRd.i (by assumption)) | exact isI.gc (isRd.i (by assumption)) | exact isI.gx (isSp.i (by assumption)) | exact isW.gx (isR.w (by assumption)) | exact isW.gF (isR.w (by assumption)) | fail "no such object") ?_ | refine rj_alenR (pc := 32) dX2_here_32 (by first | assumption | exact isI.gx (by assumption) | exact isI.gc (by assumption) | exact isW.gx (by assumption) | exact isW.gF (by assumption) | exact isW.gT (by assumption) (by omega) | exact isW.gS (by assumption) (by omega) | exact isW.gK (by assumption) (by omega) | exact isW.g1 (by assumption) | exact isW.g2 (by assumption) | exact isW.g3 (by assumption) | exact isI.gx (isW.i0 (by assumption)) | exact isI.gc (isW.i0 (by assumption)) | exact isI.gx (isW.i1 (by assumption)) | exact isI.gc (isW.i1 (by assumption)) | exact isI.gx (isW.i2 (by assumption)) | exact isI.gc (isW.i2 (by assumption)) | exact isI.gx (isW.i3 (by assumption)) | exact isI.gc (isW.i3 (by assumption)) | exact isI.gx (isW.i4 (by assumption)) | exact isI.gc (isW.i4 (by assumption)) | exact isI.gx (isW.i5 (by assumption)) | exact isI.gc (isW.i5 (by assumption)) | exact isR.gx (by assumption) | exact isRd.gx (by assumption) | exact isSp.gx (by assumption) | exact isI.gx (isR.i (by assumption)) | exact isI.gx (isRd.i (by assumption)) | exact isI.gc (isRd.i (by assumption)) | exact isI.gx (isSp.i (by assumption)) | exact isW.gx (isR.w (by assumption)) | exact isW.gF (isR.w (by assumption)) | fail "no such object") ?_
      refine rj_icmp_ge (pc := 33) (tgt := 40) dX2_here_33 (by decide) (by first | exact b01_r | exact bz_r | omega | (constructor <;> omega) | apply_assumption | (apply atF_r; assumption) | fail "no range") (by first | exact b01_r | exact bz_r | omega | (constructor <;> omega) | apply_assumption | (apply atF_r; assumption) | fail "no range") (fun c_33 => ?_) (fun c_33 => ?_)
      · refine rj_iconst (pc := 40) dX2_here_40 ?_
        refine r_istore_n (pc := 41) dX2_here_41 (Nat.le_of_ble_eq_true rfl) ?_
        dsimp only [lsSt, List.set, mLs, mEnt]
        refine r_iload_n (pc := 42) dX2_here_42 rfl ?_
        refine rj_if_eq (pc := 43) (tgt := 61) dX2_here_43 (by decide) (by first | exact b01_r | exact bz_r | omega | (constructor <;> omega) | apply_assumption | (apply atF_r; assumption) | fail "no range") (fun c_43 => ?_) (fun c_43 => ?_)
        · try simp only [b01_0, bz_0, Classical.not_not] at c_43
          refine rj_iconst (pc := 61) dX2_here_61 ?_
          refine r_ireturn (pc := 62) .int dX2_here_62 rfl (by first | rfl | assumption) ?_
          first
          | exact ⟨by unfold hereC; rw [if_pos (by omega)], rfl⟩
          | exact ⟨by unfold hereC; rw [if_neg (by omega)], rfl⟩
        · try simp only [b01_0, bz_0, Classical.not_not] at c_43
          exfalso
          first | omega | exact absurd trivial ‹¬ True›
      · refine rj_iconst (pc := 36) dX2_here_36 ?_
        refine r_goto (pc := 37) (tgt := 41) dX2_here_37 (by decide) ?_
        refine r_istore_n (pc := 41) dX2_here_41 (Nat.le_of_ble_eq_true rfl) ?_
        dsimp only [lsSt, List.set, mLs, mEnt]
        refine r_iload_n (pc := 42) dX2_here_42 rfl ?_
        refine rj_if_eq (pc := 43) (tgt := 61) dX2_here_43 (by decide) (by first | exact b01_r | exact bz_r | omega | (constructor <;> omega) | apply_assumption | (apply atF_r; assumption) | fail "no range") (fun c_43 => ?_) (fun c_43 => ?_)
        · try simp only [b01_0, bz_0, Classical.not_not] at c_43
          exfalso
          first | omega | exact absurd trivial ‹¬ True›
        · try simp only [b01_0, bz_0, Classical.not_not] at c_43
          refine r_aload_n (pc := 46) dX2_here_46 rfl (by first | rfl | exact isRefV_rf _) ?_
          refine r_getf (pc := 47) dX2_here_47 fX2_14 (by first | assumption | exact isI.gx (by assumption) | exact isI.gc (by assumption) | exact isW.gx (by assumption) | exact isW.gF (by assumption) | exact isW.gT (by assumption) (by omega) | exact isW.gS (by assumption) (by omega) | exact isW.gK (by assumption) (by omega) | exact isW.g1 (by assumption) | exact isW.g2 (by assumption) | exact isW.g3 (by assumption) | exact isI.gx (isW.i0 (by assumption)) | exact isI.gc (isW.i0 (by assumption)) | exact isI.gx (isW.i1 (by assumption)) | exact isI.gc (isW.i1 (by assumption)) | exact isI.gx (isW.i2 (by assumption)) | exact isI.gc (isW.i2 (by assumption)) | exact isI.gx (isW.i3 (by assumption)) | exact isI.gc (isW.i3 (by assumption)) | exact isI.gx (isW.i4 (by assumption)) | exact isI.gc (isW.i4 (by assumption)) | exact isI.gx (isW.i5 (by assumption)) | exact isI.gc (isW.i5 (by assumption)) | exact isR.gx (by assumption) | exact isRd.gx (by assumption) | exact isSp.gx (by assumption) | exact isI.gx (isR.i (by assumption)) | exact isI.gx (isRd.i (by assumption)) | exact isI.gc (isRd.i (by assumption)) | exact isI.gx (isSp.i (by assumption)) | exact isW.gx (isR.w (by assumption)) | exact isW.gF (isR.w (by assumption)) | fail "no such object") (by rfl) ?_
          refine r_getf (pc := 50) dX2_here_50 fX2_65 (by first | assumption | exact isI.gx (by assumption) | exact isI.gc (by assumption) | exact isW.gx (by assumption) | exact isW.gF (by assumption) | exact isW.gT (by assumption) (by omega) | exact isW.gS (by assumption) (by omega) | exact isW.gK (by assumption) (by omega) | exact isW.g1 (by assumption) | exact isW.g2 (by assumption) | exact isW.g3 (by assumption) | exact isI.gx (isW.i0 (by assumption)) | exact isI.gc (isW.i0 (by assumption)) | exact isI.gx (isW.i1 (by assumption)) | exact isI.gc (isW.i1 (by assumption)) | exact isI.gx (isW.i2 (by assumption)) | exact isI.gc (isW.i2 (by assumption)) | exact isI.gx (isW.i3 (by assumption)) | exact isI.gc (isW.i3 (by assumption)) | exact isI.gx (isW.i4 (by assumption)) | exact isI.gc (isW.i4 (by assumption)) | exact isI.gx (isW.i5 (by assumption)) | exact isI.gc (isW.i5 (by assumption)) | exact isR.gx (by assumption) | exact isRd.gx (by assumption) | exact isSp.gx (by assumption) | exact isI.gx (isR.i (by assumption)) | exact isI.gx (isRd.i (by assumption)) | exact isI.gc (isRd.i (by assumption)) | exact isI.gx (isSp.i (by assumption)) | exact isW.gx (isR.w (by assumption)) | exact isW.gF (isR.w (by assumption)) | fail "no such object") (by rfl) ?_
          refine r_aload_n (pc := 53) dX2_here_53 rfl (by first | rfl | exact isRefV_rf _) ?_
          refine r_getf (pc := 54) dX2_here_54 fX2_53 (by first | assumption | exact isI.gx (by assumption) | exact isI.gc (by assumption) | exact isW.gx (by assumption) | exact isW.gF (by assumption) | exact isW.gT (by assumption) (by omega) | exact isW.gS (by assumption) (by omega) | exact isW.gK (by assumption) (by omega) | exact isW.g1 (by assumption) | exact isW.g2 (by assumption) | exact isW.g3 (by assumption) | exact isI.gx (isW.i0 (by assumption)) | exact isI.gc (isW.i0 (by assumption)) | exact isI.gx (isW.i1 (by assumption)) | exact isI.gc (isW.i1 (by assumption)) | exact isI.gx (isW.i2 (by assumption)) | exact isI.gc (isW.i2 (by assumption)) | exact isI.gx (isW.i3 (by assumption)) | exact isI.gc (isW.i3 (by assumption)) | exact isI.gx (isW.i4 (by assumption)) | exact isI.gc (isW.i4 (by assumption)) | exact isI.gx (isW.i5 (by assumption)) | exact isI.gc (isW.i5 (by assumption)) | exact isR.gx (by assumption) | exact isRd.gx (by assumption) | exact isSp.gx (by assumption) | exact isI.gx (isR.i (by assumption)) | exact isI.gx (isRd.i (by assumption)) | exact isI.gc (isRd.i (by assumption)) | exact isI.gx (isSp.i (by assumption)) | exact isW.gx (isR.w (by assumption)) | exact isW.gF (isR.w (by assumption)) | fail "no such object") (by rfl) ?_
          refine rj_iald (pc := 57) dX2_here_57 (by first | assumption | exact isI.gx (by assumption) | exact isI.gc (by assumption) | exact isW.gx (by assumption) | exact isW.gF (by assumption) | exact isW.gT (by assumption) (by omega) | exact isW.gS (by assumption) (by omega) | exact isW.gK (by assumption) (by omega) | exact isW.g1 (by assumption) | exact isW.g2 (by assumption) | exact isW.g3 (by assumption) | exact isI.gx (isW.i0 (by assumption)) | exact isI.gc (isW.i0 (by assumption)) | exact isI.gx (isW.i1 (by assumption)) | exact isI.gc (isW.i1 (by assumption)) | exact isI.gx (isW.i2 (by assumption)) | exact isI.gc (isW.i2 (by assumption)) | exact isI.gx (isW.i3 (by assumption)) | exact isI.gc (isW.i3 (by assumption)) | exact isI.gx (isW.i4 (by assumption)) | exact isI.gc (isW.i4 (by assumption)) | exact isI.gx (isW.i5 (by assumption)) | exact isI.gc (isW.i5 (by assumption)) | exact isR.gx (by assumption) | exact isRd.gx (by assumption) | exact isSp.gx (by assumption) | exact isI.gx (isR.i (by assumption)) | exact isI.gx (isRd.i (by assumption)) | exact isI.gc (isRd.i (by assumption)) | exact isI.gx (isSp.i (by assumption)) | exact isW.gx (isR.w (by assumption)) | exact isW.gF (isR.w (by assumption)) | fail "no such object") (by first | exact b01_r | exact bz_r | omega | (constructor <;> omega) | apply_assumption | (apply atF_r; assumption) | fail "no range") (by first | exact b01_r | exact bz_r | omega | (constructor <;> omega) | apply_assumption | (apply atF_r; assumption) | fail "no range") (by first | exact b01_r | exact bz_r | omega | (constructor <;> omega) | apply_assumption | (apply atF_r; assumption) | fail "no range") rfl ?_
          refine r_goto (pc := 58) (tgt := 62) dX2_here_58 (by decide) ?_
          refine r_ireturn (pc := 62) .int dX2_here_62 rfl (by first | rfl | assumption) ?_
          first
          | exact ⟨by unfold hereC; rw [if_pos (by omega)], rfl⟩
          | exact ⟨by unfold hereC; rw [if_neg (by omega)], rfl⟩
theorem hereC_0 (p : Int) (f : Nat → Int) : hereC p 0 f = -1 := by unfold hereC; rw [if_neg (by omega)]
set_option maxHeartbeats 4000000 in
set_option maxRecDepth 100000 in
theorem cd_here0 {G : mG} {l : Launch} (d : Nat) {h : mH} {a : Nat} {p e o : Int} {f : Nat → Int} (hD : isRd h a p e o 0 f) (hp : InR p) : RUNM G l (d) mX2_here [.ref a] h (fun v h' => v = some (.int (J (-1))) ∧ h' = h) := by
  refine RUNM.of (by decide +kernel) (Nat.le_of_ble_eq_true rfl) ?_
  refine r_aload_n (pc := 0) dX2_here_0 rfl (by first | rfl | exact isRefV_rf _) ?_
  refine r_getf (pc := 1) dX2_here_1 fX2_53 (by first | assumption | exact isI.gx (by assumption) | exact isI.gc (by assumption) | exact isW.gx (by assumption) | exact isW.gF (by assumption) | exact isW.gT (by assumption) (by omega) | exact isW.gS (by assumption) (by omega) | exact isW.gK (by assumption) (by omega) | exact isW.g1 (by assumption) | exact isW.g2 (by assumption) | exact isW.g3 (by assumption) | exact isI.gx (isW.i0 (by assumption)) | exact isI.gc (isW.i0 (by assumption)) | exact isI.gx (isW.i1 (by assumption)) | exact isI.gc (isW.i1 (by assumption)) | exact isI.gx (isW.i2 (by assumption)) | exact isI.gc (isW.i2 (by assumption)) | exact isI.gx (isW.i3 (by assumption)) | exact isI.gc (isW.i3 (by assumption)) | exact isI.gx (isW.i4 (by assumption)) | exact isI.gc (isW.i4 (by assumption)) | exact isI.gx (isW.i5 (by assumption)) | exact isI.gc (isW.i5 (by assumption)) | exact isR.gx (by assumption) | exact isRd.gx (by assumption) | exact isSp.gx (by assumption) | exact isI.gx (isR.i (by assumption)) | exact isI.gx (isRd.i (by assumption)) | exact isI.gc (isRd.i (by assumption)) | exact isI.gx (isSp.i (by assumption)) | exact isW.gx (isR.w (by assumption)) | exact isW.gF (isR.w (by assumption)) | fail "no such object") (by rfl) ?_
  refine rj_if_lt (pc := 4) (tgt := 40) dX2_here_4 (by decide) (by first | exact b01_r | exact bz_r | omega | (constructor <;> omega) | apply_assumption | (apply atF_r; assumption) | fail "no range") (fun c_4 => ?_) (fun c_4 => ?_)
  · refine rj_iconst (pc := 40) dX2_here_40 ?_
    refine r_istore_n (pc := 41) dX2_here_41 (Nat.le_of_ble_eq_true rfl) ?_
    dsimp only [lsSt, List.set, mLs, mEnt]
    refine r_iload_n (pc := 42) dX2_here_42 rfl ?_
    refine rj_if_eq (pc := 43) (tgt := 61) dX2_here_43 (by decide) (by first | exact b01_r | exact bz_r | omega | (constructor <;> omega) | apply_assumption | (apply atF_r; assumption) | fail "no range") (fun c_43 => ?_) (fun c_43 => ?_)
    · try simp only [b01_0, bz_0, Classical.not_not] at c_43
      refine rj_iconst (pc := 61) dX2_here_61 ?_
      refine r_ireturn (pc := 62) .int dX2_here_62 rfl (by first | rfl | assumption) ?_
      exact ⟨rfl, rfl⟩
    · try simp only [b01_0, bz_0, Classical.not_not] at c_43
      exfalso
      first | omega | exact absurd trivial ‹¬ True›
  · refine r_aload_n (pc := 7) dX2_here_7 rfl (by first | rfl | exact isRefV_rf _) ?_
    refine r_getf (pc := 8) dX2_here_8 fX2_53 (by first | assumption | exact isI.gx (by assumption) | exact isI.gc (by assumption) | exact isW.gx (by assumption) | exact isW.gF (by assumption) | exact isW.gT (by assumption) (by omega) | exact isW.gS (by assumption) (by omega) | exact isW.gK (by assumption) (by omega) | exact isW.g1 (by assumption) | exact isW.g2 (by assumption) | exact isW.g3 (by assumption) | exact isI.gx (isW.i0 (by assumption)) | exact isI.gc (isW.i0 (by assumption)) | exact isI.gx (isW.i1 (by assumption)) | exact isI.gc (isW.i1 (by assumption)) | exact isI.gx (isW.i2 (by assumption)) | exact isI.gc (isW.i2 (by assumption)) | exact isI.gx (isW.i3 (by assumption)) | exact isI.gc (isW.i3 (by assumption)) | exact isI.gx (isW.i4 (by assumption)) | exact isI.gc (isW.i4 (by assumption)) | exact isI.gx (isW.i5 (by assumption)) | exact isI.gc (isW.i5 (by assumption)) | exact isR.gx (by assumption) | exact isRd.gx (by assumption) | exact isSp.gx (by assumption) | exact isI.gx (isR.i (by assumption)) | exact isI.gx (isRd.i (by assumption)) | exact isI.gc (isRd.i (by assumption)) | exact isI.gx (isSp.i (by assumption)) | exact isW.gx (isR.w (by assumption)) | exact isW.gF (isR.w (by assumption)) | fail "no such object") (by rfl) ?_
    refine r_aload_n (pc := 11) dX2_here_11 rfl (by first | rfl | exact isRefV_rf _) ?_
    refine r_getf (pc := 12) dX2_here_12 fX2_14 (by first | assumption | exact isI.gx (by assumption) | exact isI.gc (by assumption) | exact isW.gx (by assumption) | exact isW.gF (by assumption) | exact isW.gT (by assumption) (by omega) | exact isW.gS (by assumption) (by omega) | exact isW.gK (by assumption) (by omega) | exact isW.g1 (by assumption) | exact isW.g2 (by assumption) | exact isW.g3 (by assumption) | exact isI.gx (isW.i0 (by assumption)) | exact isI.gc (isW.i0 (by assumption)) | exact isI.gx (isW.i1 (by assumption)) | exact isI.gc (isW.i1 (by assumption)) | exact isI.gx (isW.i2 (by assumption)) | exact isI.gc (isW.i2 (by assumption)) | exact isI.gx (isW.i3 (by assumption)) | exact isI.gc (isW.i3 (by assumption)) | exact isI.gx (isW.i4 (by assumption)) | exact isI.gc (isW.i4 (by assumption)) | exact isI.gx (isW.i5 (by assumption)) | exact isI.gc (isW.i5 (by assumption)) | exact isR.gx (by assumption) | exact isRd.gx (by assumption) | exact isSp.gx (by assumption) | exact isI.gx (isR.i (by assumption)) | exact isI.gx (isRd.i (by assumption)) | exact isI.gc (isRd.i (by assumption)) | exact isI.gx (isSp.i (by assumption)) | exact isW.gx (isR.w (by assumption)) | exact isW.gF (isR.w (by assumption)) | fail "no such object") (by rfl) ?_
    refine r_getf (pc := 15) dX2_here_15 fX2_62 (by first | assumption | exact isI.gx (by assumption) | exact isI.gc (by assumption) | exact isW.gx (by assumption) | exact isW.gF (by assumption) | exact isW.gT (by assumption) (by omega) | exact isW.gS (by assumption) (by omega) | exact isW.gK (by assumption) (by omega) | exact isW.g1 (by assumption) | exact isW.g2 (by assumption) | exact isW.g3 (by assumption) | exact isI.gx (isW.i0 (by assumption)) | exact isI.gc (isW.i0 (by assumption)) | exact isI.gx (isW.i1 (by assumption)) | exact isI.gc (isW.i1 (by assumption)) | exact isI.gx (isW.i2 (by assumption)) | exact isI.gc (isW.i2 (by assumption)) | exact isI.gx (isW.i3 (by assumption)) | exact isI.gc (isW.i3 (by assumption)) | exact isI.gx (isW.i4 (by assumption)) | exact isI.gc (isW.i4 (by assumption)) | exact isI.gx (isW.i5 (by assumption)) | exact isI.gc (isW.i5 (by assumption)) | exact isR.gx (by assumption) | exact isRd.gx (by assumption) | exact isSp.gx (by assumption) | exact isI.gx (isR.i (by assumption)) | exact isI.gx (isRd.i (by assumption)) | exact isI.gc (isRd.i (by assumption)) | exact isI.gx (isSp.i (by assumption)) | exact isW.gx (isR.w (by assumption)) | exact isW.gF (isR.w (by assumption)) | fail "no such object") (by rfl) ?_
    refine rj_icmp_ge (pc := 18) (tgt := 40) dX2_here_18 (by decide) (by first | exact b01_r | exact bz_r | omega | (constructor <;> omega) | apply_assumption | (apply atF_r; assumption) | fail "no range") (by first | exact b01_r | exact bz_r | omega | (constructor <;> omega) | apply_assumption | (apply atF_r; assumption) | fail "no range") (fun c_18 => ?_) (fun c_18 => ?_)
    · refine rj_iconst (pc := 40) dX2_here_40 ?_
      refine r_istore_n (pc := 41) dX2_here_41 (Nat.le_of_ble_eq_true rfl) ?_
      dsimp only [lsSt, List.set, mLs, mEnt]
      refine r_iload_n (pc := 42) dX2_here_42 rfl ?_
      refine rj_if_eq (pc := 43) (tgt := 61) dX2_here_43 (by decide) (by first | exact b01_r | exact bz_r | omega | (constructor <;> omega) | apply_assumption | (apply atF_r; assumption) | fail "no range") (fun c_43 => ?_) (fun c_43 => ?_)
      · try simp only [b01_0, bz_0, Classical.not_not] at c_43
        refine rj_iconst (pc := 61) dX2_here_61 ?_
        refine r_ireturn (pc := 62) .int dX2_here_62 rfl (by first | rfl | assumption) ?_
        exact ⟨rfl, rfl⟩
      · try simp only [b01_0, bz_0, Classical.not_not] at c_43
        exfalso
        first | omega | exact absurd trivial ‹¬ True›
    · exfalso
      first | omega | exact absurd trivial ‹¬ True›
set_option maxHeartbeats 4000000 in
set_option maxRecDepth 100000 in
theorem cd_failAt {G : mG} {l : Launch} (d : Nat) {h : mH} {a : Nat} {p e o z : Int} {f : Nat → Int} (hD : isRd h a p e o z f) (he : InR e) (he0 : e < 0) (i : Int) : RUNM G l (d) mX2_failAt [.ref a, .int (J i)] h (fun v h' => v = none ∧ isRd h' a z i o z f ∧ Same (dBlk a) h h') := by
  refine RUNM.of (by decide +kernel) (Nat.le_of_ble_eq_true rfl) ?_
  refine r_aload_n (pc := 0) dX2_failAt_0 rfl (by first | rfl | exact isRefV_rf _) ?_
  refine r_getf (pc := 1) dX2_failAt_1 fX2_49 (by first | assumption | exact isI.gx (by assumption) | exact isI.gc (by assumption) | exact isW.gx (by assumption) | exact isW.gF (by assumption) | exact isW.gT (by assumption) (by omega) | exact isW.gS (by assumption) (by omega) | exact isW.gK (by assumption) (by omega) | exact isW.g1 (by assumption) | exact isW.g2 (by assumption) | exact isW.g3 (by assumption) | exact isI.gx (isW.i0 (by assumption)) | exact isI.gc (isW.i0 (by assumption)) | exact isI.gx (isW.i1 (by assumption)) | exact isI.gc (isW.i1 (by assumption)) | exact isI.gx (isW.i2 (by assumption)) | exact isI.gc (isW.i2 (by assumption)) | exact isI.gx (isW.i3 (by assumption)) | exact isI.gc (isW.i3 (by assumption)) | exact isI.gx (isW.i4 (by assumption)) | exact isI.gc (isW.i4 (by assumption)) | exact isI.gx (isW.i5 (by assumption)) | exact isI.gc (isW.i5 (by assumption)) | exact isR.gx (by assumption) | exact isRd.gx (by assumption) | exact isSp.gx (by assumption) | exact isI.gx (isR.i (by assumption)) | exact isI.gx (isRd.i (by assumption)) | exact isI.gc (isRd.i (by assumption)) | exact isI.gx (isSp.i (by assumption)) | exact isW.gx (isR.w (by assumption)) | exact isW.gF (isR.w (by assumption)) | fail "no such object") (by rfl) ?_
  refine rj_if_ge (pc := 4) (tgt := 12) dX2_failAt_4 (by decide) (by first | exact b01_r | exact bz_r | omega | (constructor <;> omega) | apply_assumption | (apply atF_r; assumption) | fail "no range") (fun c_4 => ?_) (fun c_4 => ?_)
  · exfalso
    first | omega | exact absurd trivial ‹¬ True›
  · refine r_aload_n (pc := 7) dX2_failAt_7 rfl (by first | rfl | exact isRefV_rf _) ?_
    refine r_iload_n (pc := 8) dX2_failAt_8 rfl ?_
    refine rc_putD2 (pc := 9) dX2_failAt_9 fX2_49 (by assumption) (fun h_9 hW_9 hS_9 => ?_)
    refine r_aload_n (pc := 12) dX2_failAt_12 rfl (by first | rfl | exact isRefV_rf _) ?_
    refine r_aload_n (pc := 13) dX2_failAt_13 rfl (by first | rfl | exact isRefV_rf _) ?_
    refine r_getf (pc := 14) dX2_failAt_14 fX2_14 (by first | assumption | exact isI.gx (by assumption) | exact isI.gc (by assumption) | exact isW.gx (by assumption) | exact isW.gF (by assumption) | exact isW.gT (by assumption) (by omega) | exact isW.gS (by assumption) (by omega) | exact isW.gK (by assumption) (by omega) | exact isW.g1 (by assumption) | exact isW.g2 (by assumption) | exact isW.g3 (by assumption) | exact isI.gx (isW.i0 (by assumption)) | exact isI.gc (isW.i0 (by assumption)) | exact isI.gx (isW.i1 (by assumption)) | exact isI.gc (isW.i1 (by assumption)) | exact isI.gx (isW.i2 (by assumption)) | exact isI.gc (isW.i2 (by assumption)) | exact isI.gx (isW.i3 (by assumption)) | exact isI.gc (isW.i3 (by assumption)) | exact isI.gx (isW.i4 (by assumption)) | exact isI.gc (isW.i4 (by assumption)) | exact isI.gx (isW.i5 (by assumption)) | exact isI.gc (isW.i5 (by assumption)) | exact isR.gx (by assumption) | exact isRd.gx (by assumption) | exact isSp.gx (by assumption) | exact isI.gx (isR.i (by assumption)) | exact isI.gx (isRd.i (by assumption)) | exact isI.gc (isRd.i (by assumption)) | exact isI.gx (isSp.i (by assumption)) | exact isW.gx (isR.w (by assumption)) | exact isW.gF (isR.w (by assumption)) | fail "no such object") (by rfl) ?_
    refine r_getf (pc := 17) dX2_failAt_17 fX2_62 (by first | assumption | exact isI.gx (by assumption) | exact isI.gc (by assumption) | exact isW.gx (by assumption) | exact isW.gF (by assumption) | exact isW.gT (by assumption) (by omega) | exact isW.gS (by assumption) (by omega) | exact isW.gK (by assumption) (by omega) | exact isW.g1 (by assumption) | exact isW.g2 (by assumption) | exact isW.g3 (by assumption) | exact isI.gx (isW.i0 (by assumption)) | exact isI.gc (isW.i0 (by assumption)) | exact isI.gx (isW.i1 (by assumption)) | exact isI.gc (isW.i1 (by assumption)) | exact isI.gx (isW.i2 (by assumption)) | exact isI.gc (isW.i2 (by assumption)) | exact isI.gx (isW.i3 (by assumption)) | exact isI.gc (isW.i3 (by assumption)) | exact isI.gx (isW.i4 (by assumption)) | exact isI.gc (isW.i4 (by assumption)) | exact isI.gx (isW.i5 (by assumption)) | exact isI.gc (isW.i5 (by assumption)) | exact isR.gx (by assumption) | exact isRd.gx (by assumption) | exact isSp.gx (by assumption) | exact isI.gx (isR.i (by assumption)) | exact isI.gx (isRd.i (by assumption)) | exact isI.gc (isRd.i (by assumption)) | exact isI.gx (isSp.i (by assumption)) | exact isW.gx (isR.w (by assumption)) | exact isW.gF (isR.w (by assumption)) | fail "no such object") (by rfl) ?_
    refine rc_putD1 (pc := 20) dX2_failAt_20 fX2_53 (by assumption) (fun h_20 hW_20 hS_20 => ?_)
    refine r_return (pc := 23) dX2_failAt_23 rfl ?_
    exact ⟨rfl, hW_20, hS_9.trans hS_20⟩
set_option maxHeartbeats 4000000 in
set_option maxRecDepth 100000 in
theorem cd_isLetter {G : mG} {l : Launch} (d : Nat) {h : mH} {i : Int} (hi : InR i) : RUNM G l (d) mX2_isLetter [.int (J i)] h (fun v h' => v = some (.int (J (b01 (97 ≤ i ∧ i ≤ 122)))) ∧ h' = h) := by
  refine RUNM.of (by decide +kernel) (Nat.le_of_ble_eq_true rfl) ?_
  refine r_iload_n (pc := 0) dX2_isLetter_0 rfl ?_
  refine rj_bipush (pc := 1) dX2_isLetter_1 (by decide +kernel) ?_
  refine rj_icmp_lt (pc := 3) (tgt := 16) dX2_isLetter_3 (by decide) (by first | exact b01_r | exact bz_r | omega | (constructor <;> omega) | apply_assumption | (apply atF_r; assumption) | fail "no range") (by first | exact b01_r | exact bz_r | omega | (constructor <;> omega) | apply_assumption | (apply atF_r; assumption) | fail "no range") (fun c_3 => ?_) (fun c_3 => ?_)
  · refine rj_iconst (pc := 16) dX2_isLetter_16 ?_
    refine r_ireturn (pc := 17) .boolean dX2_isLetter_17 rfl (by first | exact nar_J0 | exact nar_J1 | exact nar_b01 | exact nar_bz) ?_
    first
    | exact ⟨rfl, rfl⟩
    | exact ⟨vf (by omega), rfl⟩
    | exact ⟨vt (by omega), rfl⟩
  · refine r_iload_n (pc := 6) dX2_isLetter_6 rfl ?_
    refine rj_bipush (pc := 7) dX2_isLetter_7 (by decide +kernel) ?_
    refine rj_icmp_gt (pc := 9) (tgt := 16) dX2_isLetter_9 (by decide) (by first | exact b01_r | exact bz_r | omega | (constructor <;> omega) | apply_assumption | (apply atF_r; assumption) | fail "no range") (by first | exact b01_r | exact bz_r | omega | (constructor <;> omega) | apply_assumption | (apply atF_r; assumption) | fail "no range") (fun c_9 => ?_) (fun c_9 => ?_)
    · refine rj_iconst (pc := 16) dX2_isLetter_16 ?_
      refine r_ireturn (pc := 17) .boolean dX2_isLetter_17 rfl (by first | exact nar_J0 | exact nar_J1 | exact nar_b01 | exact nar_bz) ?_
      first
      | exact ⟨rfl, rfl⟩
      | exact ⟨vf (by omega), rfl⟩
      | exact ⟨vt (by omega), rfl⟩
    · refine rj_iconst (pc := 12) dX2_isLetter_12 ?_
      refine r_goto (pc := 13) (tgt := 17) dX2_isLetter_13 (by decide) ?_
      refine r_ireturn (pc := 17) .boolean dX2_isLetter_17 rfl (by first | exact nar_J0 | exact nar_J1 | exact nar_b01 | exact nar_bz) ?_
      first
      | exact ⟨rfl, rfl⟩
      | exact ⟨vf (by omega), rfl⟩
      | exact ⟨vt (by omega), rfl⟩
set_option maxHeartbeats 4000000 in
set_option maxRecDepth 100000 in
theorem L_readName {G : mG} {l : Launch} (d : Nat) {h : mH} {a : Nat} {p e o : Int} {f : Nat → Int} (hD : isRd h a p e o 0 f) (hp : InR p) : ∀ (k t : Nat) (y : Int64), t + k = 7 → RUN G l (d + 1) mX2_readName 22 [some (.ref a), some (.long y), none, some (.int (J (t : Int)))] [] h (fun v h' => (∃ n, v = some (.long n)) ∧ h' = h) := by
  intro k
  induction k with
  | zero =>
    intro t y ht
    refine r_iload_n (pc := 22) dX2_readName_22 rfl ?_
    refine rj_bipush (pc := 23) dX2_readName_23 (by decide +kernel) ?_
    refine rj_icmp_ge (pc := 25) (tgt := 71) dX2_readName_25 (by decide) (by first | exact b01_r | exact bz_r | omega | (constructor <;> omega) | apply_assumption | (apply atF_r; assumption) | fail "no range") (by first | exact b01_r | exact bz_r | omega | (constructor <;> omega) | apply_assumption | (apply atF_r; assumption) | fail "no range") (fun c_25 => ?_) (fun c_25 => ?_)
    · refine r_lload_n (pc := 71) dX2_readName_71 rfl ?_
      refine r_lreturn (pc := 72) dX2_readName_72 rfl ?_
      exact ⟨⟨_, rfl⟩, rfl⟩
    · exfalso
      first | omega | exact absurd trivial ‹¬ True›
  | succ k ih =>
    intro t y ht
    refine r_iload_n (pc := 22) dX2_readName_22 rfl ?_
    refine rj_bipush (pc := 23) dX2_readName_23 (by decide +kernel) ?_
    refine rj_icmp_ge (pc := 25) (tgt := 71) dX2_readName_25 (by decide) (by first | exact b01_r | exact bz_r | omega | (constructor <;> omega) | apply_assumption | (apply atF_r; assumption) | fail "no range") (by first | exact b01_r | exact bz_r | omega | (constructor <;> omega) | apply_assumption | (apply atF_r; assumption) | fail "no range") (fun c_25 => ?_) (fun c_25 => ?_)
    · refine r_lload_n (pc := 71) dX2_readName_71 rfl ?_
      refine r_lreturn (pc := 72) dX2_readName_72 rfl ?_
      exfalso; omega
    · refine r_lload_n (pc := 28) dX2_readName_28 rfl ?_
      refine rj_iconst (pc := 29) dX2_readName_29 ?_
      refine r_lshl (pc := 30) dX2_readName_30 ?_
      refine r_lstore_n (pc := 31) dX2_readName_31 (Nat.le_of_ble_eq_true rfl) ?_
      dsimp only [lsSt, lsSt2, List.set, mLs, mEnt]
      refine r_aload_n (pc := 32) dX2_readName_32 rfl (by first | rfl | exact isRefV_rf _) ?_
      refine r_callV0 (pc := 33) dX2_readName_33 qX2_here kX2_34 vX2_here (by first | assumption | exact isI.gx (by assumption) | exact isI.gc (by assumption) | exact isW.gx (by assumption) | exact isW.gF (by assumption) | exact isW.gT (by assumption) (by omega) | exact isW.gS (by assumption) (by omega) | exact isW.gK (by assumption) (by omega) | exact isW.g1 (by assumption) | exact isW.g2 (by assumption) | exact isW.g3 (by assumption) | exact isI.gx (isW.i0 (by assumption)) | exact isI.gc (isW.i0 (by assumption)) | exact isI.gx (isW.i1 (by assumption)) | exact isI.gc (isW.i1 (by assumption)) | exact isI.gx (isW.i2 (by assumption)) | exact isI.gc (isW.i2 (by assumption)) | exact isI.gx (isW.i3 (by assumption)) | exact isI.gc (isW.i3 (by assumption)) | exact isI.gx (isW.i4 (by assumption)) | exact isI.gc (isW.i4 (by assumption)) | exact isI.gx (isW.i5 (by assumption)) | exact isI.gc (isW.i5 (by assumption)) | exact isR.gx (by assumption) | exact isRd.gx (by assumption) | exact isSp.gx (by assumption) | exact isI.gx (isR.i (by assumption)) | exact isI.gx (isRd.i (by assumption)) | exact isI.gc (isRd.i (by assumption)) | exact isI.gx (isSp.i (by assumption)) | exact isW.gx (isR.w (by assumption)) | exact isW.gF (isR.w (by assumption)) | fail "no such object") rfl rfl (Nat.le_of_ble_eq_true rfl) (cd_here0 _ hD hp) (fun v_33 h_33 q_33 => ?_)
      obtain ⟨rfl, rfl⟩ := q_33
      refine r_callS1 (pc := 36) dX2_readName_36 qX2_isLetter kX2_103 sX2_isLetter (Nat.le_of_ble_eq_true rfl) (cd_isLetter _ (i := -1) (by decide)) (fun v_36 h_36 q_36 => ?_)
      obtain ⟨rfl, rfl⟩ := q_36
      refine rj_if_eq (pc := 39) (tgt := 65) dX2_readName_39 (by decide) (by first | exact b01_r | exact bz_r | omega | (constructor <;> omega) | apply_assumption | (apply atF_r; assumption) | fail "no range") (fun c_39 => ?_) (fun c_39 => ?_)
      · try simp only [b01_0, bz_0, Classical.not_not] at c_39
        refine rj_iinc (pc := 65) dX2_readName_65 (Nat.le_of_ble_eq_true rfl) rfl ?_
        dsimp only [lsSt, List.set, mLs, mEnt]
        refine r_goto (pc := 68) (tgt := 22) dX2_readName_68 (by decide) ?_
        exact ih (t + 1) _ (by omega)
      · try simp only [b01_0, bz_0, Classical.not_not] at c_39
        exfalso
        first | omega | exact absurd trivial ‹¬ True›
set_option maxHeartbeats 4000000 in
set_option maxRecDepth 100000 in
theorem cd_readName0 {G : mG} {l : Launch} (d : Nat) {h : mH} {a : Nat} {p e o : Int} {f : Nat → Int} (hD : isRd h a p e o 0 f) (hp : InR p) (he : InR e) (ho : InR o) (he0 : e < 0) : RUNM G l (d + 1) mX2_readName [.ref a] h (fun v h' => (∃ n, v = some (.long n)) ∧ isRd h' a 0 p o 0 f ∧ Same (dBlk a) h h') := by
  refine RUNM.of (by decide +kernel) (Nat.le_of_ble_eq_true rfl) ?_
  refine r_aload_n (pc := 0) dX2_readName_0 rfl (by first | rfl | exact isRefV_rf _) ?_
  refine r_callV0 (pc := 1) dX2_readName_1 qX2_here kX2_34 vX2_here (by first | assumption | exact isI.gx (by assumption) | exact isI.gc (by assumption) | exact isW.gx (by assumption) | exact isW.gF (by assumption) | exact isW.gT (by assumption) (by omega) | exact isW.gS (by assumption) (by omega) | exact isW.gK (by assumption) (by omega) | exact isW.g1 (by assumption) | exact isW.g2 (by assumption) | exact isW.g3 (by assumption) | exact isI.gx (isW.i0 (by assumption)) | exact isI.gc (isW.i0 (by assumption)) | exact isI.gx (isW.i1 (by assumption)) | exact isI.gc (isW.i1 (by assumption)) | exact isI.gx (isW.i2 (by assumption)) | exact isI.gc (isW.i2 (by assumption)) | exact isI.gx (isW.i3 (by assumption)) | exact isI.gc (isW.i3 (by assumption)) | exact isI.gx (isW.i4 (by assumption)) | exact isI.gc (isW.i4 (by assumption)) | exact isI.gx (isW.i5 (by assumption)) | exact isI.gc (isW.i5 (by assumption)) | exact isR.gx (by assumption) | exact isRd.gx (by assumption) | exact isSp.gx (by assumption) | exact isI.gx (isR.i (by assumption)) | exact isI.gx (isRd.i (by assumption)) | exact isI.gc (isRd.i (by assumption)) | exact isI.gx (isSp.i (by assumption)) | exact isW.gx (isR.w (by assumption)) | exact isW.gF (isR.w (by assumption)) | fail "no such object") rfl rfl (Nat.le_of_ble_eq_true rfl) (cd_here0 _ hD hp) (fun v_1 h_1 q_1 => ?_)
  obtain ⟨rfl, rfl⟩ := q_1
  refine r_callS1 (pc := 4) dX2_readName_4 qX2_isLetter kX2_103 sX2_isLetter (Nat.le_of_ble_eq_true rfl) (cd_isLetter _ (i := -1) (by decide)) (fun v_4 h_4 q_4 => ?_)
  obtain ⟨rfl, rfl⟩ := q_4
  refine rj_if_ne (pc := 7) (tgt := 18) dX2_readName_7 (by decide) (by first | exact b01_r | exact bz_r | omega | (constructor <;> omega) | apply_assumption | (apply atF_r; assumption) | fail "no range") (fun c_7 => ?_) (fun c_7 => ?_)
  · try simp only [b01_0, bz_0, Classical.not_not] at c_7
    exfalso
    first | omega | exact absurd trivial ‹¬ True›
  · try simp only [b01_0, bz_0, Classical.not_not] at c_7
    refine r_aload_n (pc := 10) dX2_readName_10 rfl (by first | rfl | exact isRefV_rf _) ?_
    refine r_aload_n (pc := 11) dX2_readName_11 rfl (by first | rfl | exact isRefV_rf _) ?_
    refine r_getf (pc := 12) dX2_readName_12 fX2_53 (by first | assumption | exact isI.gx (by assumption) | exact isI.gc (by assumption) | exact isW.gx (by assumption) | exact isW.gF (by assumption) | exact isW.gT (by assumption) (by omega) | exact isW.gS (by assumption) (by omega) | exact isW.gK (by assumption) (by omega) | exact isW.g1 (by assumption) | exact isW.g2 (by assumption) | exact isW.g3 (by assumption) | exact isI.gx (isW.i0 (by assumption)) | exact isI.gc (isW.i0 (by assumption)) | exact isI.gx (isW.i1 (by assumption)) | exact isI.gc (isW.i1 (by assumption)) | exact isI.gx (isW.i2 (by assumption)) | exact isI.gc (isW.i2 (by assumption)) | exact isI.gx (isW.i3 (by assumption)) | exact isI.gc (isW.i3 (by assumption)) | exact isI.gx (isW.i4 (by assumption)) | exact isI.gc (isW.i4 (by assumption)) | exact isI.gx (isW.i5 (by assumption)) | exact isI.gc (isW.i5 (by assumption)) | exact isR.gx (by assumption) | exact isRd.gx (by assumption) | exact isSp.gx (by assumption) | exact isI.gx (isR.i (by assumption)) | exact isI.gx (isRd.i (by assumption)) | exact isI.gc (isRd.i (by assumption)) | exact isI.gx (isSp.i (by assumption)) | exact isW.gx (isR.w (by assumption)) | exact isW.gF (isR.w (by assumption)) | fail "no such object") (by rfl) ?_
    refine r_callV1 (pc := 15) dX2_readName_15 qX2_failAt kX2_56 vX2_failAt (by first | assumption | exact isI.gx (by assumption) | exact isI.gc (by assumption) | exact isW.gx (by assumption) | exact isW.gF (by assumption) | exact isW.gT (by assumption) (by omega) | exact isW.gS (by assumption) (by omega) | exact isW.gK (by assumption) (by omega) | exact isW.g1 (by assumption) | exact isW.g2 (by assumption) | exact isW.g3 (by assumption) | exact isI.gx (isW.i0 (by assumption)) | exact isI.gc (isW.i0 (by assumption)) | exact isI.gx (isW.i1 (by assumption)) | exact isI.gc (isW.i1 (by assumption)) | exact isI.gx (isW.i2 (by assumption)) | exact isI.gc (isW.i2 (by assumption)) | exact isI.gx (isW.i3 (by assumption)) | exact isI.gc (isW.i3 (by assumption)) | exact isI.gx (isW.i4 (by assumption)) | exact isI.gc (isW.i4 (by assumption)) | exact isI.gx (isW.i5 (by assumption)) | exact isI.gc (isW.i5 (by assumption)) | exact isR.gx (by assumption) | exact isRd.gx (by assumption) | exact isSp.gx (by assumption) | exact isI.gx (isR.i (by assumption)) | exact isI.gx (isRd.i (by assumption)) | exact isI.gc (isRd.i (by assumption)) | exact isI.gx (isSp.i (by assumption)) | exact isW.gx (isR.w (by assumption)) | exact isW.gF (isR.w (by assumption)) | fail "no such object") rfl rfl (Nat.le_of_ble_eq_true rfl) (cd_failAt _ hD he he0 p) (fun v_15 h_15 q_15 => ?_)
    obtain ⟨rfl, hD_15, S_15⟩ := q_15
    refine r_lconst (pc := 18) (v := 0) dX2_readName_18 (by decide) ?_
    refine r_lstore_n (pc := 19) dX2_readName_19 (Nat.le_of_ble_eq_true rfl) ?_
    dsimp only [lsSt, lsSt2, List.set, mLs, mEnt]
    refine rj_iconst (pc := 20) dX2_readName_20 ?_
    refine r_istore_n (pc := 21) dX2_readName_21 (Nat.le_of_ble_eq_true rfl) ?_
    dsimp only [lsSt, List.set, mLs, mEnt]
    exact (L_readName d hD_15 (by decide) 7 0 _ (by omega)).mono (fun v h' g => ⟨g.1, g.2 ▸ hD_15, g.2 ▸ S_15⟩)
set_option maxHeartbeats 4000000 in
set_option maxRecDepth 100000 in
theorem cd_mayBegin0 {G : mG} {l : Launch} (d : Nat) {h : mH} {a : Nat} {i k : Int} : RUNM G l (d) mX2_mayBegin [.ref a, .int (J (-1)), .int (J i), .int (J k)] h (fun v h' => v = some (.int (J 0)) ∧ h' = h) := by
  refine RUNM.of (by decide +kernel) (Nat.le_of_ble_eq_true rfl) ?_
  refine r_iload_n (pc := 0) dX2_mayBegin_0 rfl ?_
  refine rj_lsw (pc := 1) dX2_mayBegin_1 rfl (by first | exact b01_r | exact bz_r | omega | (constructor <;> omega) | apply_assumption | (apply atF_r; assumption) | fail "no range") (by simp only [Op.lookupswitch.offset_cons, Op.lookupswitch.offset_nil]; repeat' split; all_goals omega) (fun off_1 tgt_1 ho_1 ht_1 => ?_)
  simp only [Op.lookupswitch.offset_cons, Op.lookupswitch.offset_nil] at ho_1
  by_cases e_1_33 : (33 : Int) = (-1 : Int)
  · rw [if_pos e_1_33] at ho_1
    obtain rfl : tgt_1 = 92 := by omega
    exfalso
    first | omega | exact absurd trivial ‹¬ True›
  rw [if_neg e_1_33] at ho_1
  by_cases e_1_40 : (40 : Int) = (-1 : Int)
  · rw [if_pos e_1_40] at ho_1
    obtain rfl : tgt_1 = 104 := by omega
    exfalso
    first | omega | exact absurd trivial ‹¬ True›
  rw [if_neg e_1_40] at ho_1
  by_cases e_1_41 : (41 : Int) = (-1 : Int)
  · rw [if_pos e_1_41] at ho_1
    obtain rfl : tgt_1 = 118 := by omega
    exfalso
    first | omega | exact absurd trivial ‹¬ True›
  rw [if_neg e_1_41] at ho_1
  by_cases e_1_43 : (43 : Int) = (-1 : Int)
  · rw [if_pos e_1_43] at ho_1
    obtain rfl : tgt_1 = 92 := by omega
    exfalso
    first | omega | exact absurd trivial ‹¬ True›
  rw [if_neg e_1_43] at ho_1
  by_cases e_1_46 : (46 : Int) = (-1 : Int)
  · rw [if_pos e_1_46] at ho_1
    obtain rfl : tgt_1 = 92 := by omega
    exfalso
    first | omega | exact absurd trivial ‹¬ True›
  rw [if_neg e_1_46] at ho_1
  by_cases e_1_63 : (63 : Int) = (-1 : Int)
  · rw [if_pos e_1_63] at ho_1
    obtain rfl : tgt_1 = 94 := by omega
    exfalso
    first | omega | exact absurd trivial ‹¬ True›
  rw [if_neg e_1_63] at ho_1
  by_cases e_1_97 : (97 : Int) = (-1 : Int)
  · rw [if_pos e_1_97] at ho_1
    obtain rfl : tgt_1 = 92 := by omega
    exfalso
    first | omega | exact absurd trivial ‹¬ True›
  rw [if_neg e_1_97] at ho_1
  by_cases e_1_107 : (107 : Int) = (-1 : Int)
  · rw [if_pos e_1_107] at ho_1
    obtain rfl : tgt_1 = 92 := by omega
    exfalso
    first | omega | exact absurd trivial ‹¬ True›
  rw [if_neg e_1_107] at ho_1
  by_cases e_1_109 : (109 : Int) = (-1 : Int)
  · rw [if_pos e_1_109] at ho_1
    obtain rfl : tgt_1 = 92 := by omega
    exfalso
    first | omega | exact absurd trivial ‹¬ True›
  rw [if_neg e_1_109] at ho_1
  by_cases e_1_120 : (120 : Int) = (-1 : Int)
  · rw [if_pos e_1_120] at ho_1
    obtain rfl : tgt_1 = 92 := by omega
    exfalso
    first | omega | exact absurd trivial ‹¬ True›
  rw [if_neg e_1_120] at ho_1
  obtain rfl : tgt_1 = 139 := by omega
  refine rj_iconst (pc := 139) dX2_mayBegin_139 ?_
  refine r_ireturn (pc := 140) .boolean dX2_mayBegin_140 rfl (by first | exact nar_J0 | exact nar_J1 | exact nar_b01 | exact nar_bz) ?_
  exact ⟨rfl, rfl⟩
set_option maxHeartbeats 4000000 in
set_option maxRecDepth 100000 in
theorem cd_readStep0 {G : mG} {l : Launch} (d : Nat) {h : mH} {a : Nat} {p e o : Int} {f : Nat → Int} (hD : isRd h a p e o 0 f) (hp : InR p) (he : InR e) (ho : InR o) (he0 : e < 0) {i k : Int} : RUNM G l (d + 2) mX2_readStep [.ref a, .int (J i), .int (J k)] h (fun v h' => v = some .null ∧ isRd h' a 0 p o 0 f ∧ Same (dBlk a) h h') := by
  refine RUNM.of (by decide +kernel) (Nat.le_of_ble_eq_true rfl) ?_
  refine r_aload_n (pc := 0) dX2_readStep_0 rfl (by first | rfl | exact isRefV_rf _) ?_
  refine r_callV0 (pc := 1) dX2_readStep_1 qX2_here kX2_34 vX2_here (by first | assumption | exact isI.gx (by assumption) | exact isI.gc (by assumption) | exact isW.gx (by assumption) | exact isW.gF (by assumption) | exact isW.gT (by assumption) (by omega) | exact isW.gS (by assumption) (by omega) | exact isW.gK (by assumption) (by omega) | exact isW.g1 (by assumption) | exact isW.g2 (by assumption) | exact isW.g3 (by assumption) | exact isI.gx (isW.i0 (by assumption)) | exact isI.gc (isW.i0 (by assumption)) | exact isI.gx (isW.i1 (by assumption)) | exact isI.gc (isW.i1 (by assumption)) | exact isI.gx (isW.i2 (by assumption)) | exact isI.gc (isW.i2 (by assumption)) | exact isI.gx (isW.i3 (by assumption)) | exact isI.gc (isW.i3 (by assumption)) | exact isI.gx (isW.i4 (by assumption)) | exact isI.gc (isW.i4 (by assumption)) | exact isI.gx (isW.i5 (by assumption)) | exact isI.gc (isW.i5 (by assumption)) | exact isR.gx (by assumption) | exact isRd.gx (by assumption) | exact isSp.gx (by assumption) | exact isI.gx (isR.i (by assumption)) | exact isI.gx (isRd.i (by assumption)) | exact isI.gc (isRd.i (by assumption)) | exact isI.gx (isSp.i (by assumption)) | exact isW.gx (isR.w (by assumption)) | exact isW.gF (isR.w (by assumption)) | fail "no such object") rfl rfl (Nat.le_of_ble_eq_true rfl) (cd_here0 _ hD hp) (fun v_1 h_1 q_1 => ?_)
  obtain ⟨rfl, rfl⟩ := q_1
  refine r_istore_n (pc := 4) dX2_readStep_4 (Nat.le_of_ble_eq_true rfl) ?_
  dsimp only [lsSt, List.set, mLs, mEnt]
  refine r_aload_n (pc := 5) dX2_readStep_5 rfl (by first | rfl | exact isRefV_rf _) ?_
  refine r_iload_n (pc := 6) dX2_readStep_6 rfl ?_
  refine r_iload_n (pc := 7) dX2_readStep_7 rfl ?_
  refine r_iload_n (pc := 8) dX2_readStep_8 rfl ?_
  refine r_callV3 (pc := 9) dX2_readStep_9 qX2_mayBegin kX2_76 vX2_mayBegin (by first | assumption | exact isI.gx (by assumption) | exact isI.gc (by assumption) | exact isW.gx (by assumption) | exact isW.gF (by assumption) | exact isW.gT (by assumption) (by omega) | exact isW.gS (by assumption) (by omega) | exact isW.gK (by assumption) (by omega) | exact isW.g1 (by assumption) | exact isW.g2 (by assumption) | exact isW.g3 (by assumption) | exact isI.gx (isW.i0 (by assumption)) | exact isI.gc (isW.i0 (by assumption)) | exact isI.gx (isW.i1 (by assumption)) | exact isI.gc (isW.i1 (by assumption)) | exact isI.gx (isW.i2 (by assumption)) | exact isI.gc (isW.i2 (by assumption)) | exact isI.gx (isW.i3 (by assumption)) | exact isI.gc (isW.i3 (by assumption)) | exact isI.gx (isW.i4 (by assumption)) | exact isI.gc (isW.i4 (by assumption)) | exact isI.gx (isW.i5 (by assumption)) | exact isI.gc (isW.i5 (by assumption)) | exact isR.gx (by assumption) | exact isRd.gx (by assumption) | exact isSp.gx (by assumption) | exact isI.gx (isR.i (by assumption)) | exact isI.gx (isRd.i (by assumption)) | exact isI.gc (isRd.i (by assumption)) | exact isI.gx (isSp.i (by assumption)) | exact isW.gx (isR.w (by assumption)) | exact isW.gF (isR.w (by assumption)) | fail "no such object") rfl rfl (Nat.le_of_ble_eq_true rfl) (cd_mayBegin0 (d + 1)) (fun v_9 h_9 q_9 => ?_)
  obtain ⟨rfl, rfl⟩ := q_9
  refine rj_if_ne (pc := 12) (tgt := 25) dX2_readStep_12 (by decide) (by first | exact b01_r | exact bz_r | omega | (constructor <;> omega) | apply_assumption | (apply atF_r; assumption) | fail "no range") (fun c_12 => ?_) (fun c_12 => ?_)
  · try simp only [b01_0, bz_0, Classical.not_not] at c_12
    exfalso
    first | omega | exact absurd trivial ‹¬ True›
  · try simp only [b01_0, bz_0, Classical.not_not] at c_12
    refine r_aload_n (pc := 15) dX2_readStep_15 rfl (by first | rfl | exact isRefV_rf _) ?_
    refine r_aload_n (pc := 16) dX2_readStep_16 rfl (by first | rfl | exact isRefV_rf _) ?_
    refine r_getf (pc := 17) dX2_readStep_17 fX2_53 (by first | assumption | exact isI.gx (by assumption) | exact isI.gc (by assumption) | exact isW.gx (by assumption) | exact isW.gF (by assumption) | exact isW.gT (by assumption) (by omega) | exact isW.gS (by assumption) (by omega) | exact isW.gK (by assumption) (by omega) | exact isW.g1 (by assumption) | exact isW.g2 (by assumption) | exact isW.g3 (by assumption) | exact isI.gx (isW.i0 (by assumption)) | exact isI.gc (isW.i0 (by assumption)) | exact isI.gx (isW.i1 (by assumption)) | exact isI.gc (isW.i1 (by assumption)) | exact isI.gx (isW.i2 (by assumption)) | exact isI.gc (isW.i2 (by assumption)) | exact isI.gx (isW.i3 (by assumption)) | exact isI.gc (isW.i3 (by assumption)) | exact isI.gx (isW.i4 (by assumption)) | exact isI.gc (isW.i4 (by assumption)) | exact isI.gx (isW.i5 (by assumption)) | exact isI.gc (isW.i5 (by assumption)) | exact isR.gx (by assumption) | exact isRd.gx (by assumption) | exact isSp.gx (by assumption) | exact isI.gx (isR.i (by assumption)) | exact isI.gx (isRd.i (by assumption)) | exact isI.gc (isRd.i (by assumption)) | exact isI.gx (isSp.i (by assumption)) | exact isW.gx (isR.w (by assumption)) | exact isW.gF (isR.w (by assumption)) | fail "no such object") (by rfl) ?_
    refine r_callV1 (pc := 20) dX2_readStep_20 qX2_failAt kX2_56 vX2_failAt (by first | assumption | exact isI.gx (by assumption) | exact isI.gc (by assumption) | exact isW.gx (by assumption) | exact isW.gF (by assumption) | exact isW.gT (by assumption) (by omega) | exact isW.gS (by assumption) (by omega) | exact isW.gK (by assumption) (by omega) | exact isW.g1 (by assumption) | exact isW.g2 (by assumption) | exact isW.g3 (by assumption) | exact isI.gx (isW.i0 (by assumption)) | exact isI.gc (isW.i0 (by assumption)) | exact isI.gx (isW.i1 (by assumption)) | exact isI.gc (isW.i1 (by assumption)) | exact isI.gx (isW.i2 (by assumption)) | exact isI.gc (isW.i2 (by assumption)) | exact isI.gx (isW.i3 (by assumption)) | exact isI.gc (isW.i3 (by assumption)) | exact isI.gx (isW.i4 (by assumption)) | exact isI.gc (isW.i4 (by assumption)) | exact isI.gx (isW.i5 (by assumption)) | exact isI.gc (isW.i5 (by assumption)) | exact isR.gx (by assumption) | exact isRd.gx (by assumption) | exact isSp.gx (by assumption) | exact isI.gx (isR.i (by assumption)) | exact isI.gx (isRd.i (by assumption)) | exact isI.gc (isRd.i (by assumption)) | exact isI.gx (isSp.i (by assumption)) | exact isW.gx (isR.w (by assumption)) | exact isW.gF (isR.w (by assumption)) | fail "no such object") rfl rfl (Nat.le_of_ble_eq_true rfl) (cd_failAt _ hD he he0 p) (fun v_20 h_20 q_20 => ?_)
    obtain ⟨rfl, hD_20, S_20⟩ := q_20
    refine r_null (pc := 23) dX2_readStep_23 ?_
    refine r_areturn (pc := 24) _ dX2_readStep_24 rfl (Or.inl ⟨_, rfl⟩) (by first | rfl | exact isRefV_rf _) ?_
    exact ⟨rfl, hD_20, S_20⟩
set_option maxHeartbeats 4000000 in
set_option maxRecDepth 100000 in
theorem cd_readSteps0 {G : mG} {l : Launch} (d : Nat) {h : mH} {a : Nat} {p e : Int} {f : Nat → Int} (hD : isRd h a p e 0 0 f) (hp : InR p) (he : InR e) (he0 : e < 0) {i : Int} : RUNM G l (d + 3) mX2_readSteps [.ref a, .int (J i), .int (J (-1))] h (fun v h' => v = some .null ∧ isRd h' a 0 p 0 0 f ∧ Same (dBlk a) h h') := by
  refine RUNM.of (by decide +kernel) (Nat.le_of_ble_eq_true rfl) ?_
  refine r_aload_n (pc := 0) dX2_readSteps_0 rfl (by first | rfl | exact isRefV_rf _) ?_
  refine r_iload_n (pc := 1) dX2_readSteps_1 rfl ?_
  refine rj_iconst (pc := 2) dX2_readSteps_2 ?_
  refine r_callV2 (pc := 3) dX2_readSteps_3 qX2_readStep kX2_69 vX2_readStep (by first | assumption | exact isI.gx (by assumption) | exact isI.gc (by assumption) | exact isW.gx (by assumption) | exact isW.gF (by assumption) | exact isW.gT (by assumption) (by omega) | exact isW.gS (by assumption) (by omega) | exact isW.gK (by assumption) (by omega) | exact isW.g1 (by assumption) | exact isW.g2 (by assumption) | exact isW.g3 (by assumption) | exact isI.gx (isW.i0 (by assumption)) | exact isI.gc (isW.i0 (by assumption)) | exact isI.gx (isW.i1 (by assumption)) | exact isI.gc (isW.i1 (by assumption)) | exact isI.gx (isW.i2 (by assumption)) | exact isI.gc (isW.i2 (by assumption)) | exact isI.gx (isW.i3 (by assumption)) | exact isI.gc (isW.i3 (by assumption)) | exact isI.gx (isW.i4 (by assumption)) | exact isI.gc (isW.i4 (by assumption)) | exact isI.gx (isW.i5 (by assumption)) | exact isI.gc (isW.i5 (by assumption)) | exact isR.gx (by assumption) | exact isRd.gx (by assumption) | exact isSp.gx (by assumption) | exact isI.gx (isR.i (by assumption)) | exact isI.gx (isRd.i (by assumption)) | exact isI.gc (isRd.i (by assumption)) | exact isI.gx (isSp.i (by assumption)) | exact isW.gx (isR.w (by assumption)) | exact isW.gF (isR.w (by assumption)) | fail "no such object") rfl rfl (Nat.le_of_ble_eq_true rfl) (cd_readStep0 _ hD hp he (by decide) he0) (fun v_3 h_3 q_3 => ?_)
  obtain ⟨rfl, hD_3, S_3⟩ := q_3
  refine r_astore_n (pc := 6) dX2_readSteps_6 (Nat.le_of_ble_eq_true rfl) (by first | rfl | exact isRefV_rf _) ?_
  dsimp only [lsSt, List.set, mLs, mEnt]
  refine r_aload_n (pc := 7) dX2_readSteps_7 rfl (by first | rfl | exact isRefV_rf _) ?_
  refine r_astore (pc := 8) dX2_readSteps_8 (Nat.le_of_ble_eq_true rfl) (by first | rfl | exact isRefV_rf _) ?_
  dsimp only [lsSt, List.set, mLs, mEnt]
  refine rj_iconst (pc := 10) dX2_readSteps_10 ?_
  refine r_istore (pc := 11) dX2_readSteps_11 (Nat.le_of_ble_eq_true rfl) ?_
  dsimp only [lsSt, List.set, mLs, mEnt]
  refine r_iload (pc := 13) dX2_readSteps_13 rfl ?_
  refine rj_bipush (pc := 15) dX2_readSteps_15 (by decide +kernel) ?_
  refine rj_icmp_ge (pc := 17) (tgt := 68) dX2_readSteps_17 (by decide) (by first | exact b01_r | exact bz_r | omega | (constructor <;> omega) | apply_assumption | (apply atF_r; assumption) | fail "no range") (by first | exact b01_r | exact bz_r | omega | (constructor <;> omega) | apply_assumption | (apply atF_r; assumption) | fail "no range") (fun c_17 => ?_) (fun c_17 => ?_)
  · exfalso
    first | omega | exact absurd trivial ‹¬ True›
  · refine r_aload (pc := 20) dX2_readSteps_20 rfl (by first | rfl | exact isRefV_rf _) ?_
    refine r_ifnull (pc := 22) (tgt := 68) dX2_readSteps_22 (by decide) (by first | rfl | exact isRefV_rf _) (fun c_22 => ?_) (fun a_22 c_22 => by cases c_22)
    refine r_aload_n (pc := 68) dX2_readSteps_68 rfl (by first | rfl | exact isRefV_rf _) ?_
    refine r_callV0 (pc := 69) dX2_readSteps_69 qX2_here kX2_34 vX2_here (by first | assumption | exact isI.gx (by assumption) | exact isI.gc (by assumption) | exact isW.gx (by assumption) | exact isW.gF (by assumption) | exact isW.gT (by assumption) (by omega) | exact isW.gS (by assumption) (by omega) | exact isW.gK (by assumption) (by omega) | exact isW.g1 (by assumption) | exact isW.g2 (by assumption) | exact isW.g3 (by assumption) | exact isI.gx (isW.i0 (by assumption)) | exact isI.gc (isW.i0 (by assumption)) | exact isI.gx (isW.i1 (by assumption)) | exact isI.gc (isW.i1 (by assumption)) | exact isI.gx (isW.i2 (by assumption)) | exact isI.gc (isW.i2 (by assumption)) | exact isI.gx (isW.i3 (by assumption)) | exact isI.gc (isW.i3 (by assumption)) | exact isI.gx (isW.i4 (by assumption)) | exact isI.gc (isW.i4 (by assumption)) | exact isI.gx (isW.i5 (by assumption)) | exact isI.gc (isW.i5 (by assumption)) | exact isR.gx (by assumption) | exact isRd.gx (by assumption) | exact isSp.gx (by assumption) | exact isI.gx (isR.i (by assumption)) | exact isI.gx (isRd.i (by assumption)) | exact isI.gc (isRd.i (by assumption)) | exact isI.gx (isSp.i (by assumption)) | exact isW.gx (isR.w (by assumption)) | exact isW.gF (isR.w (by assumption)) | fail "no such object") rfl rfl (Nat.le_of_ble_eq_true rfl) (cd_here0 _ hD_3 (by decide)) (fun v_69 h_69 q_69 => ?_)
    obtain ⟨rfl, rfl⟩ := q_69
    refine r_iload_n (pc := 72) dX2_readSteps_72 rfl ?_
    refine rj_icmp_ne (pc := 73) (tgt := 88) dX2_readSteps_73 (by decide) (by first | exact b01_r | exact bz_r | omega | (constructor <;> omega) | apply_assumption | (apply atF_r; assumption) | fail "no range") (by first | exact b01_r | exact bz_r | omega | (constructor <;> omega) | apply_assumption | (apply atF_r; assumption) | fail "no range") (fun c_73 => ?_) (fun c_73 => ?_)
    · exfalso
      first | omega | exact absurd trivial ‹¬ True›
    · refine r_iload_n (pc := 76) dX2_readSteps_76 rfl ?_
      refine rj_iconst (pc := 77) dX2_readSteps_77 ?_
      refine rj_icmp_ne (pc := 78) (tgt := 96) dX2_readSteps_78 (by decide) (by first | exact b01_r | exact bz_r | omega | (constructor <;> omega) | apply_assumption | (apply atF_r; assumption) | fail "no range") (by first | exact b01_r | exact bz_r | omega | (constructor <;> omega) | apply_assumption | (apply atF_r; assumption) | fail "no range") (fun c_78 => ?_) (fun c_78 => ?_)
      · exfalso
        first | omega | exact absurd trivial ‹¬ True›
      · refine r_aload_n (pc := 81) dX2_readSteps_81 rfl (by first | rfl | exact isRefV_rf _) ?_
        refine r_getf (pc := 82) dX2_readSteps_82 fX2_59 (by first | assumption | exact isI.gx (by assumption) | exact isI.gc (by assumption) | exact isW.gx (by assumption) | exact isW.gF (by assumption) | exact isW.gT (by assumption) (by omega) | exact isW.gS (by assumption) (by omega) | exact isW.gK (by assumption) (by omega) | exact isW.g1 (by assumption) | exact isW.g2 (by assumption) | exact isW.g3 (by assumption) | exact isI.gx (isW.i0 (by assumption)) | exact isI.gc (isW.i0 (by assumption)) | exact isI.gx (isW.i1 (by assumption)) | exact isI.gc (isW.i1 (by assumption)) | exact isI.gx (isW.i2 (by assumption)) | exact isI.gc (isW.i2 (by assumption)) | exact isI.gx (isW.i3 (by assumption)) | exact isI.gc (isW.i3 (by assumption)) | exact isI.gx (isW.i4 (by assumption)) | exact isI.gc (isW.i4 (by assumption)) | exact isI.gx (isW.i5 (by assumption)) | exact isI.gc (isW.i5 (by assumption)) | exact isR.gx (by assumption) | exact isRd.gx (by assumption) | exact isSp.gx (by assumption) | exact isI.gx (isR.i (by assumption)) | exact isI.gx (isRd.i (by assumption)) | exact isI.gc (isRd.i (by assumption)) | exact isI.gx (isSp.i (by assumption)) | exact isW.gx (isR.w (by assumption)) | exact isW.gF (isR.w (by assumption)) | fail "no such object") (by rfl) ?_
        refine rj_if_le (pc := 85) (tgt := 96) dX2_readSteps_85 (by decide) (by first | exact b01_r | exact bz_r | omega | (constructor <;> omega) | apply_assumption | (apply atF_r; assumption) | fail "no range") (fun c_85 => ?_) (fun c_85 => ?_)
        · refine r_aload_n (pc := 96) dX2_readSteps_96 rfl (by first | rfl | exact isRefV_rf _) ?_
          refine r_areturn (pc := 97) _ dX2_readSteps_97 rfl (Or.inl ⟨_, rfl⟩) (by first | rfl | exact isRefV_rf _) ?_
          exact ⟨rfl, hD_3, S_3⟩
        · exfalso
          first | omega | exact absurd trivial ‹¬ True›
set_option maxHeartbeats 4000000 in
set_option maxRecDepth 100000 in
theorem cd_readTask0 {G : mG} {l : Launch} (d : Nat) {h : mH} {a : Nat} {p e o : Int} {f : Nat → Int} (hD : isRd h a p e o 0 f) : RUNM G l (d + 4) mX2_readTask [.ref a] h (fun v h' => v = some .null ∧ isRd h' a 0 0 0 0 f ∧ Same (dBlk a) h h') := by
  refine RUNM.of (by decide +kernel) (Nat.le_of_ble_eq_true rfl) ?_
  refine r_aload_n (pc := 0) dX2_readTask_0 rfl (by first | rfl | exact isRefV_rf _) ?_
  refine r_callV0 (pc := 1) dX2_readTask_1 qX2_begin kX2_20 vX2_begin (by first | assumption | exact isI.gx (by assumption) | exact isI.gc (by assumption) | exact isW.gx (by assumption) | exact isW.gF (by assumption) | exact isW.gT (by assumption) (by omega) | exact isW.gS (by assumption) (by omega) | exact isW.gK (by assumption) (by omega) | exact isW.g1 (by assumption) | exact isW.g2 (by assumption) | exact isW.g3 (by assumption) | exact isI.gx (isW.i0 (by assumption)) | exact isI.gc (isW.i0 (by assumption)) | exact isI.gx (isW.i1 (by assumption)) | exact isI.gc (isW.i1 (by assumption)) | exact isI.gx (isW.i2 (by assumption)) | exact isI.gc (isW.i2 (by assumption)) | exact isI.gx (isW.i3 (by assumption)) | exact isI.gc (isW.i3 (by assumption)) | exact isI.gx (isW.i4 (by assumption)) | exact isI.gc (isW.i4 (by assumption)) | exact isI.gx (isW.i5 (by assumption)) | exact isI.gc (isW.i5 (by assumption)) | exact isR.gx (by assumption) | exact isRd.gx (by assumption) | exact isSp.gx (by assumption) | exact isI.gx (isR.i (by assumption)) | exact isI.gx (isRd.i (by assumption)) | exact isI.gc (isRd.i (by assumption)) | exact isI.gx (isSp.i (by assumption)) | exact isW.gx (isR.w (by assumption)) | exact isW.gF (isR.w (by assumption)) | fail "no such object") rfl rfl (Nat.le_of_ble_eq_true rfl) (cd_begin _ hD) (fun v_1 h_1 q_1 => ?_)
  obtain ⟨rfl, hD_1, S_1⟩ := q_1
  refine r_aload_n (pc := 4) dX2_readTask_4 rfl (by first | rfl | exact isRefV_rf _) ?_
  refine rj_iconst (pc := 5) dX2_readTask_5 ?_
  refine rj_iconst (pc := 6) dX2_readTask_6 ?_
  refine r_callV2 (pc := 7) dX2_readTask_7 qX2_readSteps kX2_41 vX2_readSteps (by first | assumption | exact isI.gx (by assumption) | exact isI.gc (by assumption) | exact isW.gx (by assumption) | exact isW.gF (by assumption) | exact isW.gT (by assumption) (by omega) | exact isW.gS (by assumption) (by omega) | exact isW.gK (by assumption) (by omega) | exact isW.g1 (by assumption) | exact isW.g2 (by assumption) | exact isW.g3 (by assumption) | exact isI.gx (isW.i0 (by assumption)) | exact isI.gc (isW.i0 (by assumption)) | exact isI.gx (isW.i1 (by assumption)) | exact isI.gc (isW.i1 (by assumption)) | exact isI.gx (isW.i2 (by assumption)) | exact isI.gc (isW.i2 (by assumption)) | exact isI.gx (isW.i3 (by assumption)) | exact isI.gc (isW.i3 (by assumption)) | exact isI.gx (isW.i4 (by assumption)) | exact isI.gc (isW.i4 (by assumption)) | exact isI.gx (isW.i5 (by assumption)) | exact isI.gc (isW.i5 (by assumption)) | exact isR.gx (by assumption) | exact isRd.gx (by assumption) | exact isSp.gx (by assumption) | exact isI.gx (isR.i (by assumption)) | exact isI.gx (isRd.i (by assumption)) | exact isI.gc (isRd.i (by assumption)) | exact isI.gx (isSp.i (by assumption)) | exact isW.gx (isR.w (by assumption)) | exact isW.gF (isR.w (by assumption)) | fail "no such object") rfl rfl (Nat.le_of_ble_eq_true rfl) (cd_readSteps0 _ hD_1 (by decide) (by decide) (by decide)) (fun v_7 h_7 q_7 => ?_)
  obtain ⟨rfl, hD_7, S_7⟩ := q_7
  refine r_astore_n (pc := 10) dX2_readTask_10 (Nat.le_of_ble_eq_true rfl) (by first | rfl | exact isRefV_rf _) ?_
  dsimp only [lsSt, List.set, mLs, mEnt]
  refine r_aload_n (pc := 11) dX2_readTask_11 rfl (by first | rfl | exact isRefV_rf _) ?_
  refine r_getf (pc := 12) dX2_readTask_12 fX2_49 (by first | assumption | exact isI.gx (by assumption) | exact isI.gc (by assumption) | exact isW.gx (by assumption) | exact isW.gF (by assumption) | exact isW.gT (by assumption) (by omega) | exact isW.gS (by assumption) (by omega) | exact isW.gK (by assumption) (by omega) | exact isW.g1 (by assumption) | exact isW.g2 (by assumption) | exact isW.g3 (by assumption) | exact isI.gx (isW.i0 (by assumption)) | exact isI.gc (isW.i0 (by assumption)) | exact isI.gx (isW.i1 (by assumption)) | exact isI.gc (isW.i1 (by assumption)) | exact isI.gx (isW.i2 (by assumption)) | exact isI.gc (isW.i2 (by assumption)) | exact isI.gx (isW.i3 (by assumption)) | exact isI.gc (isW.i3 (by assumption)) | exact isI.gx (isW.i4 (by assumption)) | exact isI.gc (isW.i4 (by assumption)) | exact isI.gx (isW.i5 (by assumption)) | exact isI.gc (isW.i5 (by assumption)) | exact isR.gx (by assumption) | exact isRd.gx (by assumption) | exact isSp.gx (by assumption) | exact isI.gx (isR.i (by assumption)) | exact isI.gx (isRd.i (by assumption)) | exact isI.gc (isRd.i (by assumption)) | exact isI.gx (isSp.i (by assumption)) | exact isW.gx (isR.w (by assumption)) | exact isW.gF (isR.w (by assumption)) | fail "no such object") (by rfl) ?_
  refine rj_if_ge (pc := 15) (tgt := 22) dX2_readTask_15 (by decide) (by first | exact b01_r | exact bz_r | omega | (constructor <;> omega) | apply_assumption | (apply atF_r; assumption) | fail "no range") (fun c_15 => ?_) (fun c_15 => ?_)
  · refine r_null (pc := 22) dX2_readTask_22 ?_
    refine r_areturn (pc := 23) _ dX2_readTask_23 rfl (Or.inl ⟨_, rfl⟩) (by first | rfl | exact isRefV_rf _) ?_
    exact ⟨rfl, hD_7, S_1.trans S_7⟩
  · exfalso
    first | omega | exact absurd trivial ‹¬ True›
set_option maxHeartbeats 4000000 in
set_option maxRecDepth 100000 in
theorem cd_readWholeName0 {G : mG} {l : Launch} (d : Nat) {h : mH} {a : Nat} {p e o : Int} {f : Nat → Int} (hD : isRd h a p e o 0 f) : RUNM G l (d + 2) mX2_readWholeName [.ref a] h (fun v h' => (∃ n, v = some (.long n)) ∧ isRd h' a 0 0 0 0 f ∧ Same (dBlk a) h h') := by
  refine RUNM.of (by decide +kernel) (Nat.le_of_ble_eq_true rfl) ?_
  refine r_aload_n (pc := 0) dX2_readWholeName_0 rfl (by first | rfl | exact isRefV_rf _) ?_
  refine r_callV0 (pc := 1) dX2_readWholeName_1 qX2_begin kX2_20 vX2_begin (by first | assumption | exact isI.gx (by assumption) | exact isI.gc (by assumption) | exact isW.gx (by assumption) | exact isW.gF (by assumption) | exact isW.gT (by assumption) (by omega) | exact isW.gS (by assumption) (by omega) | exact isW.gK (by assumption) (by omega) | exact isW.g1 (by assumption) | exact isW.g2 (by assumption) | exact isW.g3 (by assumption) | exact isI.gx (isW.i0 (by assumption)) | exact isI.gc (isW.i0 (by assumption)) | exact isI.gx (isW.i1 (by assumption)) | exact isI.gc (isW.i1 (by assumption)) | exact isI.gx (isW.i2 (by assumption)) | exact isI.gc (isW.i2 (by assumption)) | exact isI.gx (isW.i3 (by assumption)) | exact isI.gc (isW.i3 (by assumption)) | exact isI.gx (isW.i4 (by assumption)) | exact isI.gc (isW.i4 (by assumption)) | exact isI.gx (isW.i5 (by assumption)) | exact isI.gc (isW.i5 (by assumption)) | exact isR.gx (by assumption) | exact isRd.gx (by assumption) | exact isSp.gx (by assumption) | exact isI.gx (isR.i (by assumption)) | exact isI.gx (isRd.i (by assumption)) | exact isI.gc (isRd.i (by assumption)) | exact isI.gx (isSp.i (by assumption)) | exact isW.gx (isR.w (by assumption)) | exact isW.gF (isR.w (by assumption)) | fail "no such object") rfl rfl (Nat.le_of_ble_eq_true rfl) (cd_begin _ hD) (fun v_1 h_1 q_1 => ?_)
  obtain ⟨rfl, hD_1, S_1⟩ := q_1
  refine r_aload_n (pc := 4) dX2_readWholeName_4 rfl (by first | rfl | exact isRefV_rf _) ?_
  refine r_callV0 (pc := 5) dX2_readWholeName_5 qX2_readName kX2_26 vX2_readName (by first | assumption | exact isI.gx (by assumption) | exact isI.gc (by assumption) | exact isW.gx (by assumption) | exact isW.gF (by assumption) | exact isW.gT (by assumption) (by omega) | exact isW.gS (by assumption) (by omega) | exact isW.gK (by assumption) (by omega) | exact isW.g1 (by assumption) | exact isW.g2 (by assumption) | exact isW.g3 (by assumption) | exact isI.gx (isW.i0 (by assumption)) | exact isI.gc (isW.i0 (by assumption)) | exact isI.gx (isW.i1 (by assumption)) | exact isI.gc (isW.i1 (by assumption)) | exact isI.gx (isW.i2 (by assumption)) | exact isI.gc (isW.i2 (by assumption)) | exact isI.gx (isW.i3 (by assumption)) | exact isI.gc (isW.i3 (by assumption)) | exact isI.gx (isW.i4 (by assumption)) | exact isI.gc (isW.i4 (by assumption)) | exact isI.gx (isW.i5 (by assumption)) | exact isI.gc (isW.i5 (by assumption)) | exact isR.gx (by assumption) | exact isRd.gx (by assumption) | exact isSp.gx (by assumption) | exact isI.gx (isR.i (by assumption)) | exact isI.gx (isRd.i (by assumption)) | exact isI.gc (isRd.i (by assumption)) | exact isI.gx (isSp.i (by assumption)) | exact isW.gx (isR.w (by assumption)) | exact isW.gF (isR.w (by assumption)) | fail "no such object") rfl rfl (Nat.le_of_ble_eq_true rfl) (cd_readName0 _ hD_1 (by decide) (by decide) (by decide) (by decide)) (fun v_5 h_5 q_5 => ?_)
  obtain ⟨⟨n_5, rfl⟩, hD_5, S_5⟩ := q_5
  refine r_lstore_n (pc := 8) dX2_readWholeName_8 (Nat.le_of_ble_eq_true rfl) ?_
  dsimp only [lsSt, lsSt2, List.set, mLs, mEnt]
  refine r_aload_n (pc := 9) dX2_readWholeName_9 rfl (by first | rfl | exact isRefV_rf _) ?_
  refine r_callV0 (pc := 10) dX2_readWholeName_10 qX2_here kX2_34 vX2_here (by first | assumption | exact isI.gx (by assumption) | exact isI.gc (by assumption) | exact isW.gx (by assumption) | exact isW.gF (by assumption) | exact isW.gT (by assumption) (by omega) | exact isW.gS (by assumption) (by omega) | exact isW.gK (by assumption) (by omega) | exact isW.g1 (by assumption) | exact isW.g2 (by assumption) | exact isW.g3 (by assumption) | exact isI.gx (isW.i0 (by assumption)) | exact isI.gc (isW.i0 (by assumption)) | exact isI.gx (isW.i1 (by assumption)) | exact isI.gc (isW.i1 (by assumption)) | exact isI.gx (isW.i2 (by assumption)) | exact isI.gc (isW.i2 (by assumption)) | exact isI.gx (isW.i3 (by assumption)) | exact isI.gc (isW.i3 (by assumption)) | exact isI.gx (isW.i4 (by assumption)) | exact isI.gc (isW.i4 (by assumption)) | exact isI.gx (isW.i5 (by assumption)) | exact isI.gc (isW.i5 (by assumption)) | exact isR.gx (by assumption) | exact isRd.gx (by assumption) | exact isSp.gx (by assumption) | exact isI.gx (isR.i (by assumption)) | exact isI.gx (isRd.i (by assumption)) | exact isI.gc (isRd.i (by assumption)) | exact isI.gx (isSp.i (by assumption)) | exact isW.gx (isR.w (by assumption)) | exact isW.gF (isR.w (by assumption)) | fail "no such object") rfl rfl (Nat.le_of_ble_eq_true rfl) (cd_here0 _ hD_5 (by decide)) (fun v_10 h_10 q_10 => ?_)
  obtain ⟨rfl, rfl⟩ := q_10
  refine rj_iconst (pc := 13) dX2_readWholeName_13 ?_
  refine rj_icmp_eq (pc := 14) (tgt := 25) dX2_readWholeName_14 (by decide) (by first | exact b01_r | exact bz_r | omega | (constructor <;> omega) | apply_assumption | (apply atF_r; assumption) | fail "no range") (by first | exact b01_r | exact bz_r | omega | (constructor <;> omega) | apply_assumption | (apply atF_r; assumption) | fail "no range") (fun c_14 => ?_) (fun c_14 => ?_)
  · refine r_lload_n (pc := 25) dX2_readWholeName_25 rfl ?_
    refine r_lreturn (pc := 26) dX2_readWholeName_26 rfl ?_
    exact ⟨⟨_, rfl⟩, hD_5, S_1.trans S_5⟩
  · exfalso
    first | omega | exact absurd trivial ‹¬ True›
theorem Same.of_new {h : mH} {n : Nat} {o : mO} {b : Nat} (hb : b < h.2.1) : hGet (hNew h n o) b = hGet h b := hGet_new_ne (by omega) rfl
set_option maxHeartbeats 4000000 in
set_option maxRecDepth 100000 in
theorem k_X6 {G : mG} {l : Launch} (d : Nat) {h : mH} {a : Nat} {i : Int} (hx : hGet h a = some (.inl (6, [.int 0, .int 0, .int 0, .long 0, .null, .null]))) (hlo : h.1 ≤ a) : RUNM G l (d + 1) mX6_init [.ref a, .int (J i)] h (fun v h' => v = none ∧ hGet h' a = some (.inl (6, [.int (J i), .int 0, .int 0, .long 0, .null, .null])) ∧ Same (fun b => b = a) h h') := by
  refine RUNM.of (by decide +kernel) (Nat.le_of_ble_eq_true rfl) ?_
  refine r_aload_n (pc := 0) dX6_init_0 rfl (by first | rfl | exact isRefV_rf _) ?_
  refine r_objInit (pc := 1) dX6_init_1 kX6_1 (Nat.le_of_ble_eq_true rfl) ?_
  refine r_aload_n (pc := 4) dX6_init_4 rfl (by first | rfl | exact isRefV_rf _) ?_
  refine r_iload_n (pc := 5) dX6_init_5 rfl ?_
  refine r_putF (pc := 6) dX6_init_6 fX6_7 ⟨_, rfl, rfl⟩ rfl hx hlo rfl rfl (Nat.le_of_ble_eq_true rfl) ?_
  dsimp only [List.set]
  refine r_return (pc := 9) dX6_init_9 rfl ?_
  exact ⟨rfl, hGet_put_self, Same.refl.put rfl⟩
set_option maxHeartbeats 4000000 in
set_option maxRecDepth 100000 in
theorem cd_readThing0 {G : mG} {l : Launch} (d : Nat) {h : mH} {a : Nat} {p e o : Int} {f : Nat → Int} (hD : isRd h a p e o 0 f) (ha : a + 3 ≤ h.2.1) : RUNM G l (d + 2) mX2_readThing [.ref a] h (fun v h' => v = some .null ∧ isRd h' a 0 0 0 0 f ∧ (∀ b, b < h.2.1 → ¬ dBlk a b → hGet h' b = hGet h b) ∧ h'.1 = h.1 ∧ h'.2.1 = h.2.1 + 1 ∧ h'.2.2.1 = h.2.2.1 + 6) := by
  refine RUNM.of (by decide +kernel) (Nat.le_of_ble_eq_true rfl) ?_
  refine r_aload_n (pc := 0) dX2_readThing_0 rfl (by first | rfl | exact isRefV_rf _) ?_
  refine r_callV0 (pc := 1) dX2_readThing_1 qX2_begin kX2_20 vX2_begin (by first | assumption | exact isI.gx (by assumption) | exact isI.gc (by assumption) | exact isW.gx (by assumption) | exact isW.gF (by assumption) | exact isW.gT (by assumption) (by omega) | exact isW.gS (by assumption) (by omega) | exact isW.gK (by assumption) (by omega) | exact isW.g1 (by assumption) | exact isW.g2 (by assumption) | exact isW.g3 (by assumption) | exact isI.gx (isW.i0 (by assumption)) | exact isI.gc (isW.i0 (by assumption)) | exact isI.gx (isW.i1 (by assumption)) | exact isI.gc (isW.i1 (by assumption)) | exact isI.gx (isW.i2 (by assumption)) | exact isI.gc (isW.i2 (by assumption)) | exact isI.gx (isW.i3 (by assumption)) | exact isI.gc (isW.i3 (by assumption)) | exact isI.gx (isW.i4 (by assumption)) | exact isI.gc (isW.i4 (by assumption)) | exact isI.gx (isW.i5 (by assumption)) | exact isI.gc (isW.i5 (by assumption)) | exact isR.gx (by assumption) | exact isRd.gx (by assumption) | exact isSp.gx (by assumption) | exact isI.gx (isR.i (by assumption)) | exact isI.gx (isRd.i (by assumption)) | exact isI.gc (isRd.i (by assumption)) | exact isI.gx (isSp.i (by assumption)) | exact isW.gx (isR.w (by assumption)) | exact isW.gF (isR.w (by assumption)) | fail "no such object") rfl rfl (Nat.le_of_ble_eq_true rfl) (cd_begin _ hD) (fun v_1 h_1 q_1 => ?_)
  obtain ⟨rfl, hD_1, S_1⟩ := q_1
  refine rg_newC (pc := 4) (z := h.2.1) dX2_readThing_4 cX2_23 S_1.2.1 (fun h_4 o_4 s_4 l_4 n_4 k_4 => ?_)
  have ll := hD.lo
  have e1 := S_1.1
  have e2 := S_1.2.1
  have e3 := S_1.2.2.1
  have hD_4 := hD_1.keep2 (h' := h_4) l_4 (fun b hb => s_4 b (by unfold dBlk at hb; omega))
  refine r_dup (pc := 7) dX2_readThing_7 (by first | rfl | (cases ‹Option Nat› <;> rfl)) ?_
  refine rj_bipush (pc := 8) dX2_readThing_8 (by decide +kernel) ?_
  refine r_callI1 (pc := 10) dX2_readThing_10 qX6_init rfl kX2_25 rfl iX6_init (Nat.le_of_ble_eq_true rfl) (k_X6 _ o_4 (by omega)) (fun v_10 h_10 q_10 => ?_)
  obtain ⟨rfl, o_10, S_10⟩ := q_10
  have hD_10 := hD_4.keep2 S_10.1 (fun b hb => S_10.2.2.2 b (by unfold dBlk at hb; omega))
  have f1 := S_10.1
  have f2 := S_10.2.1
  have f3 := S_10.2.2.1
  refine r_astore_n (pc := 13) dX2_readThing_13 (Nat.le_of_ble_eq_true rfl) (by first | rfl | exact isRefV_rf _) ?_
  dsimp only [lsSt, List.set, mLs, mEnt]
  refine r_aload_n (pc := 14) dX2_readThing_14 rfl (by first | rfl | exact isRefV_rf _) ?_
  refine r_aload_n (pc := 15) dX2_readThing_15 rfl (by first | rfl | exact isRefV_rf _) ?_
  refine r_callV0 (pc := 16) dX2_readThing_16 qX2_readName kX2_26 vX2_readName (by first | assumption | exact isI.gx (by assumption) | exact isI.gc (by assumption) | exact isW.gx (by assumption) | exact isW.gF (by assumption) | exact isW.gT (by assumption) (by omega) | exact isW.gS (by assumption) (by omega) | exact isW.gK (by assumption) (by omega) | exact isW.g1 (by assumption) | exact isW.g2 (by assumption) | exact isW.g3 (by assumption) | exact isI.gx (isW.i0 (by assumption)) | exact isI.gc (isW.i0 (by assumption)) | exact isI.gx (isW.i1 (by assumption)) | exact isI.gc (isW.i1 (by assumption)) | exact isI.gx (isW.i2 (by assumption)) | exact isI.gc (isW.i2 (by assumption)) | exact isI.gx (isW.i3 (by assumption)) | exact isI.gc (isW.i3 (by assumption)) | exact isI.gx (isW.i4 (by assumption)) | exact isI.gc (isW.i4 (by assumption)) | exact isI.gx (isW.i5 (by assumption)) | exact isI.gc (isW.i5 (by assumption)) | exact isR.gx (by assumption) | exact isRd.gx (by assumption) | exact isSp.gx (by assumption) | exact isI.gx (isR.i (by assumption)) | exact isI.gx (isRd.i (by assumption)) | exact isI.gc (isRd.i (by assumption)) | exact isI.gx (isSp.i (by assumption)) | exact isW.gx (isR.w (by assumption)) | exact isW.gF (isR.w (by assumption)) | fail "no such object") rfl rfl (Nat.le_of_ble_eq_true rfl) (cd_readName0 _ hD_10 (by decide) (by decide) (by decide) (by decide)) (fun v_16 h_16 q_16 => ?_)
  obtain ⟨⟨n_16, rfl⟩, hD_16, S_16⟩ := q_16
  have o_16 := (S_16.2.2.2 h.2.1 (fun q => by unfold dBlk at q; omega)).trans o_10
  have g1 := S_16.1
  have g2 := S_16.2.1
  have g3 := S_16.2.2.1
  refine r_putf (pc := 19) dX2_readThing_19 fX2_30 o_16 (by omega) rfl rfl (Nat.le_of_ble_eq_true rfl) ?_
  refine rg_gen (fun h_19 o_19 s_19 l_19 n_19 k_19 => ?_)
  have hD_19 := hD_16.keep2 l_19 (fun b hb => s_19 b (by unfold dBlk at hb; omega))
  refine r_aload_n (pc := 22) dX2_readThing_22 rfl (by first | rfl | exact isRefV_rf _) ?_
  refine r_callV0 (pc := 23) dX2_readThing_23 qX2_here kX2_34 vX2_here (by first | assumption | exact isI.gx (by assumption) | exact isI.gc (by assumption) | exact isW.gx (by assumption) | exact isW.gF (by assumption) | exact isW.gT (by assumption) (by omega) | exact isW.gS (by assumption) (by omega) | exact isW.gK (by assumption) (by omega) | exact isW.g1 (by assumption) | exact isW.g2 (by assumption) | exact isW.g3 (by assumption) | exact isI.gx (isW.i0 (by assumption)) | exact isI.gc (isW.i0 (by assumption)) | exact isI.gx (isW.i1 (by assumption)) | exact isI.gc (isW.i1 (by assumption)) | exact isI.gx (isW.i2 (by assumption)) | exact isI.gc (isW.i2 (by assumption)) | exact isI.gx (isW.i3 (by assumption)) | exact isI.gc (isW.i3 (by assumption)) | exact isI.gx (isW.i4 (by assumption)) | exact isI.gc (isW.i4 (by assumption)) | exact isI.gx (isW.i5 (by assumption)) | exact isI.gc (isW.i5 (by assumption)) | exact isR.gx (by assumption) | exact isRd.gx (by assumption) | exact isSp.gx (by assumption) | exact isI.gx (isR.i (by assumption)) | exact isI.gx (isRd.i (by assumption)) | exact isI.gc (isRd.i (by assumption)) | exact isI.gx (isSp.i (by assumption)) | exact isW.gx (isR.w (by assumption)) | exact isW.gF (isR.w (by assumption)) | fail "no such object") rfl rfl (Nat.le_of_ble_eq_true rfl) (cd_here0 _ hD_19 (by decide)) (fun v_23 h_23 q_23 => ?_)
  obtain ⟨rfl, rfl⟩ := q_23
  refine rj_iconst (pc := 26) dX2_readThing_26 ?_
  refine rj_icmp_eq (pc := 27) (tgt := 46) dX2_readThing_27 (by decide) (by first | exact b01_r | exact bz_r | omega | (constructor <;> omega) | apply_assumption | (apply atF_r; assumption) | fail "no range") (by first | exact b01_r | exact bz_r | omega | (constructor <;> omega) | apply_assumption | (apply atF_r; assumption) | fail "no range") (fun c_27 => ?_) (fun c_27 => ?_)
  · refine r_aload_n (pc := 46) dX2_readThing_46 rfl (by first | rfl | exact isRefV_rf _) ?_
    refine r_getf (pc := 47) dX2_readThing_47 fX2_49 (by first | assumption | exact isI.gx (by assumption) | exact isI.gc (by assumption) | exact isW.gx (by assumption) | exact isW.gF (by assumption) | exact isW.gT (by assumption) (by omega) | exact isW.gS (by assumption) (by omega) | exact isW.gK (by assumption) (by omega) | exact isW.g1 (by assumption) | exact isW.g2 (by assumption) | exact isW.g3 (by assumption) | exact isI.gx (isW.i0 (by assumption)) | exact isI.gc (isW.i0 (by assumption)) | exact isI.gx (isW.i1 (by assumption)) | exact isI.gc (isW.i1 (by assumption)) | exact isI.gx (isW.i2 (by assumption)) | exact isI.gc (isW.i2 (by assumption)) | exact isI.gx (isW.i3 (by assumption)) | exact isI.gc (isW.i3 (by assumption)) | exact isI.gx (isW.i4 (by assumption)) | exact isI.gc (isW.i4 (by assumption)) | exact isI.gx (isW.i5 (by assumption)) | exact isI.gc (isW.i5 (by assumption)) | exact isR.gx (by assumption) | exact isRd.gx (by assumption) | exact isSp.gx (by assumption) | exact isI.gx (isR.i (by assumption)) | exact isI.gx (isRd.i (by assumption)) | exact isI.gc (isRd.i (by assumption)) | exact isI.gx (isSp.i (by assumption)) | exact isW.gx (isR.w (by assumption)) | exact isW.gF (isR.w (by assumption)) | fail "no such object") (by rfl) ?_
    refine rj_if_ge (pc := 50) (tgt := 57) dX2_readThing_50 (by decide) (by first | exact b01_r | exact bz_r | omega | (constructor <;> omega) | apply_assumption | (apply atF_r; assumption) | fail "no range") (fun c_50 => ?_) (fun c_50 => ?_)
    · refine r_null (pc := 57) dX2_readThing_57 ?_
      refine r_areturn (pc := 58) _ dX2_readThing_58 rfl (Or.inl ⟨_, rfl⟩) (by first | rfl | exact isRefV_rf _) ?_
      exact ⟨rfl, hD_19, fun b hb hn => (s_19 b (by omega)).trans ((S_16.2.2.2 b hn).trans ((S_10.2.2.2 b (by omega)).trans ((s_4 b (by omega)).trans (S_1.2.2.2 b hn)))), by omega, by omega, by omega⟩
    · exfalso
      first | omega | exact absurd trivial ‹¬ True›
  · exfalso
    first | omega | exact absurd trivial ‹¬ True›

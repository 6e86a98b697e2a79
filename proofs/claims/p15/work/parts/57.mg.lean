section mg_57
/-! ===== the class: its reader before an empty tape ===== -/
set_option maxHeartbeats 4000000 in
set_option maxRecDepth 100000 in
theorem cd_begin {G : mG} {l : Launch} (d : Nat) {h : mH} {a : Nat} {p e o z : Int} {f : Nat → Int} (hD : isRd h a p e o z f) : RUNM G l (d) mX2_begin [.ref a] h (fun v h' => v = none ∧ isRd h' a 0 (-1) 0 z f ∧ Same (dBlk a) h h') := by
  refine RUNM.of (by decide +kernel) (Nat.le_of_ble_eq_true rfl) ?_
  refine r_aload_n (pc := 0) dX2_begin_0 rfl (by first | rfl | exact isRefV_rf _) ?_
  refine rj_iconst (pc := 1) dX2_begin_1 ?_
  refine rc_putD1 (pc := 2) dX2_begin_2 fX2_53 (by assumption) (fun h_2 hW_2 hS_2 => ?_)
  refine r_aload_n (pc := 5) dX2_begin_5 rfl (by first | rfl | exact isRefV_rf _) ?_
  refine rj_iconst (pc := 6) dX2_begin_6 ?_
  refine rc_putD2 (pc := 7) dX2_begin_7 fX2_49 (by assumption) (fun h_7 hW_7 hS_7 => ?_)
  refine r_aload_n (pc := 10) dX2_begin_10 rfl (by first | rfl | exact isRefV_rf _) ?_
  refine rj_iconst (pc := 11) dX2_begin_11 ?_
  refine rc_putD3 (pc := 12) dX2_begin_12 fX2_59 (by assumption) (fun h_12 hW_12 hS_12 => ?_)
  refine r_return (pc := 15) dX2_begin_15 rfl ?_
  exact ⟨rfl, hW_12, (hS_2.trans hS_7).trans hS_12⟩
def hereC (p z : Int) (f : Nat → Int) : Int := if 0 ≤ p ∧ p < z ∧ p < 120 then f p.toNat else -1
set_option maxHeartbeats 4000000 in
set_option maxRecDepth 100000 in
theorem cd_here {G : mG} {l : Launch} (d : Nat) {h : mH} {a : Nat} {p e o z : Int} {f : Nat → Int} (hD : isRd h a p e o z f) (hp : InR p) (he : InR e) (ho : InR o) (hz : InR z) (hf : ∀ q, InR (f q)) : RUNM G l (d) mX2_here [.ref a] h (fun v h' => v = some (.int (J (hereC p z f))) ∧ h' = h) := by
  refine RUNM.of (by decide +kernel) (Nat.le_of_ble_eq_true rfl) ?_
  refine r_aload_n (pc := 0) dX2_here_0 rfl (by first | rfl | exact isRefV_rf _) ?_
  refine r_getf (pc := 1) dX2_here_1 fX2_53 (by first | assumption | exact isI.gx (by assumption) | exact isI.gc (by assumption) | exact isW.gx (by assumption) | exact isW.gF (by assumption) | exact isW.gT (by assumption) (by omega) | exact isW.gS (by assumption) (by omega) | exact isW.gK (by assumption) (by omega) | exact isW.g1 (by assumption) | exact isW.g2 (by assumption) | exact isW.g3 (by assumption) | exact isI.gx (isW.i0 (by assumption)) | exact isI.gc (isW.i0 (by assumption)) | exact isI.gx (isW.i1 (by assumption)) | exact isI.gc (isW.i1 (by assumption)) | exact isI.gx (isW.i2 (by assumption)) | exact isI.gc (isW.i2 (by assumption)) | exact isI.gx (isW.i3 (by assumption)) | exact isI.gc (isW.i3 (by assumption)) | exact isI.gx (isW.i4 (by assumption)) | exact isI.gc (isW.i4 (by assumption)) | exact isI.gx (isW.i5 (by assumption)) | exact isI.gc (isW.i5 (by assumption)) | exact isR.gx (by assumption) | exact isRd.gx (by assumption) | exact isSp.gx (by assumption) | exact isI.gx (isR.i (by assumption)) | exact isI.gx (isRd.i (by assumption)) | exact isI.gc (isRd.i (by assumption)) | exact isI.gx (isSp.i (by assumption)) | exact isW.gx (isR.w (by assumption)) | exact isW.gF (isR.w (by assumption)) | fail "no such object") (by rfl) ?_
  refine rj_if_lt (pc := 4) (tgt := 40) dX2_here_4 (by decide) (by first | exact b01_r | exact bz_r | omega | (constructor <;> omega) | apply_assumption | (apply atF_r; assumption) | fail "no range") (fun c_4 => ?_) (fun c_4 => ?_)
  · refine rj_iconst (pc := 40) dX2_here_40 ?_
    refine r_istore_n (pc := 41) dX2_here_41 (Nat.le_of_ble_eq_true rfl) ?_
    dsimp only [lsSt, List.set, mLs, mEnt]
    refine r_iload_n (pc := 42) dX2_here_42 rfl ?_
    refine rj_if_eq (pc := 43) (tgt := 61) dX2_here_43 (by decide) (by first | exact b01_r | exact bz_r | omega | (constructor <;> omega) | apply_assumption | (apply atF_r; assumption) | fail "no range") (fun c_43 => ?_) (fun c_43 => ?_)
    · try simp only [b01_0, bz_0, Classical.not_not] at c_43
      refine rj_iconst (pc := 61) dX2_here_61 ?_
      refine r_ireturn (pc := 62) .int dX2_here_62 rfl (by first | rfl | assumption) ?_
      first
      | exact ⟨by unfold hereC; rw [if_pos (by omega)], rfl⟩
      | exact ⟨by unfold hereC; rw [if_neg (by omega)], rfl⟩
    · try simp only [b01_0, bz_0, Classical.not_not] at c_43
      exfalso
      first | omega | exact absurd trivial ‹¬ True›
  · refine r_aload_n (pc := 7) dX2_here_7 rfl (by first | rfl | exact isRefV_rf _) ?_
    refine r_getf (pc := 8) dX2_here_8 fX2_53 (by first | assumption | exact isI.gx (by assumption) | exact isI.gc (by assumption) | exact isW.gx (by assumption) | exact isW.gF (by assumption) | exact isW.gT (by assumption) (by omega) | exact isW.gS (by assumption) (by omega) | exact isW.gK (by assumption) (by omega) | exact isW.g1 (by assumption) | exact isW.g2 (by assumption) | exact isW.g3 (by assumption) | exact isI.gx (isW.i0 (by assumption)) | exact isI.gc (isW.i0 (by assumption)) | exact isI.gx (isW.i1 (by assumption)) | exact isI.gc (isW.i1 (by assumption)) | exact isI.gx (isW.i2 (by assumption)) | exact isI.gc (isW.i2 (by assumption)) | exact isI.gx (isW.i3 (by assumption)) | exact isI.gc (isW.i3 (by assumption)) | exact isI.gx (isW.i4 (by assumption)) | exact isI.gc (isW.i4 (by assumption)) | exact isI.gx (isW.i5 (by assumption)) | exact isI.gc (isW.i5 (by assumption)) | exact isR.gx (by assumption) | exact isRd.gx (by assumption) | exact isSp.gx (by assumption) | exact isI.gx (isR.i (by assumption)) | exact isI.gx (isRd.i (by assumption)) | exact isI.gc (isRd.i (by assumption)) | exact isI.gx (isSp.i (by assumption)) | exact isW.gx (isR.w (by assumption)) | exact isW.gF (isR.w (by assumption)) | fail "no such object") (by rfl) ?_
    refine r_aload_n (pc := 11) dX2_here_11 rfl (by first | rfl | exact isRefV_rf _) ?_
    refine r_getf (pc := 12) dX2_here_12 fX2_14 (by first | assumption | exact isI.gx (by assumption) | exact isI.gc (by assumption) | exact isW.gx (by assumption) | exact isW.gF (by assumption) | exact isW.gT (by assumption) (by omega) | exact isW.gS (by assumption) (by omega) | exact isW.gK (by assumption) (by omega) | exact isW.g1 (by assumption) | exact isW.g2 (by assumption) | exact isW.g3 (by assumption) | exact isI.gx (isW.i0 (by assumption)) | exact isI.gc (isW.i0 (by assumption)) | exact isI.gx (isW.i1 (by assumption)) | exact isI.gc (isW.i1 (by assumption)) | exact isI.gx (isW.i2 (by assumption)) | exact isI.gc (isW.i2 (by assumption)) | exact isI.gx (isW.i3 (by assumption)) | exact isI.gc (isW.i3 (by assumption)) | exact isI.gx (isW.i4 (by assumption)) | exact isI.gc (isW.i4 (by assumption)) | exact isI.gx (isW.i5 (by assumption)) | exact isI.gc (isW.i5 (by assumption)) | exact isR.gx (by assumption) | exact isRd.gx (by assumption) | exact isSp.gx (by assumption) | exact isI.gx (isR.i (by assumption)) | exact isI.gx (isRd.i (by assumption)) | exact isI.gc (isRd.i (by assumption)) | exact isI.gx (isSp.i (by assumption)) | exact isW.gx (isR.w (by assumption)) | exact isW.gF (isR.w (by assumption)) | fail "no such object") (by rfl) ?_
    refine r_getf (pc := 15) dX2_here_15 fX2_62 (by first | assumption | exact isI.gx (by assumption) | exact isI.gc (by assumption) | exact isW.gx (by assumption) | exact isW.gF (by assumption) | exact isW.gT (by assumption) (by omega) | exact isW.gS (by assumption) (by omega) | exact isW.gK (by assumption) (by omega) | exact isW.g1 (by assumption) | exact isW.g2 (by assumption) | exact isW.g3 (by assumption) | exact isI.gx (isW.i0 (by assumption)) | exact isI.gc (isW.i0 (by assumption)) | exact isI.gx (isW.i1 (by assumption)) | exact isI.gc (isW.i1 (by assumption)) | exact isI.gx (isW.i2 (by assumption)) | exact isI.gc (isW.i2 (by assumption)) | exact isI.gx (isW.i3 (by assumption)) | exact isI.gc (isW.i3 (by assumption)) | exact isI.gx (isW.i4 (by assumption)) | exact isI.gc (isW.i4 (by assumption)) | exact isI.gx (isW.i5 (by assumption)) | exact isI.gc (isW.i5 (by assumption)) | exact isR.gx (by assumption) | exact isRd.gx (by assumption) | exact isSp.gx (by assumption) | exact isI.gx (isR.i (by assumption)) | exact isI.gx (isRd.i (by assumption)) | exact isI.gc (isRd.i (by assumption)) | exact isI.gx (isSp.i (by assumption)) | exact isW.gx (isR.w (by assumption)) | exact isW.gF (isR.w (by assumption)) | fail "no such object") (by rfl) ?_
    refine rj_icmp_ge (pc := 18) (tgt := 40) dX2_here_18 (by decide) (by first | exact b01_r | exact bz_r | omega | (constructor <;> omega) | apply_assumption | (apply atF_r; assumption) | fail "no range") (by first | exact b01_r | exact bz_r | omega | (constructor <;> omega) | apply_assumption | (apply atF_r; assumption) | fail "no range") (fun c_18 => ?_) (fun c_18 => ?_)
    · refine rj_iconst (pc := 40) dX2_here_40 ?_
      refine r_istore_n (pc := 41) dX2_here_41 (Nat.le_of_ble_eq_true rfl) ?_
      dsimp only [lsSt, List.set, mLs, mEnt]
      refine r_iload_n (pc := 42) dX2_here_42 rfl ?_
      refine rj_if_eq (pc := 43) (tgt := 61) dX2_here_43 (by decide) (by first | exact b01_r | exact bz_r | omega | (constructor <;> omega) | apply_assumption | (apply atF_r; assumption) | fail "no range") (fun c_43 => ?_) (fun c_43 => ?_)
      · try simp only [b01_0, bz_0, Classical.not_not] at c_43
        refine rj_iconst (pc := 61) dX2_here_61 ?_
        refine r_ireturn (pc := 62) .int dX2_here_62 rfl (by first | rfl | assumption) ?_
        first
        | exact ⟨by unfold hereC; rw [if_pos (by omega)], rfl⟩
        | exact ⟨by unfold hereC; rw [if_neg (by omega)], rfl⟩
      · try simp only [b01_0, bz_0, Classical.not_not] at c_43
        exfalso
        first | omega | exact absurd trivial ‹¬ True›
    · refine r_aload_n (pc := 21) dX2_here_21 rfl (by first | rfl | exact isRefV_rf _) ?_
      refine r_getf (pc := 22) dX2_here_22 fX2_53 (by first | assumption | exact isI.gx (by assumption) | exact isI.gc (by assumption) | exact isW.gx (by assumption) | exact isW.gF (by assumption) | exact isW.gT (by assumption) (by omega) | exact isW.gS (by assumption) (by omega) | exact isW.gK (by assumption) (by omega) | exact isW.g1 (by assumption) | exact isW.g2 (by assumption) | exact isW.g3 (by assumption) | exact isI.gx (isW.i0 (by assumption)) | exact isI.gc (isW.i0 (by assumption)) | exact isI.gx (isW.i1 (by assumption)) | exact isI.gc (isW.i1 (by assumption)) | exact isI.gx (isW.i2 (by assumption)) | exact isI.gc (isW.i2 (by assumption)) | exact isI.gx (isW.i3 (by assumption)) | exact isI.gc (isW.i3 (by assumption)) | exact isI.gx (isW.i4 (by assumption)) | exact isI.gc (isW.i4 (by assumption)) | exact isI.gx (isW.i5 (by assumption)) | exact isI.gc (isW.i5 (by assumption)) | exact isR.gx (by assumption) | exact isRd.gx (by assumption) | exact isSp.gx (by assumption) | exact isI.gx (isR.i (by assumption)) | exact isI.gx (isRd.i (by assumption)) | exact isI.gc (isRd.i (by assumption)) | exact isI.gx (isSp.i (by assumption)) | exact isW.gx (isR.w (by assumption)) | exact isW.gF (isR.w (by assumption)) | fail "no such object") (by rfl) ?_
      refine r_aload_n (pc := 25) dX2_here_25 rfl (by first | rfl | exact isRefV_rf _) ?_
      refine r_getf (pc := 26) dX2_here_26 fX2_14 (by first | assumption | exact isI.gx (by assumption) | exact isI.gc (by assumption) | exact isW.gx (by assumption) | exact isW.gF (by assumption) | exact isW.gT (by assumption) (by omega) | exact isW.gS (by assumption) (by omega) | exact isW.gK (by assumption) (by omega) | exact isW.g1 (by assumption) | exact isW.g2 (by assumption) | exact isW.g3 (by assumption) | exact isI.gx (isW.i0 (by assumption)) | exact isI.gc (isW.i0 (by assumption)) | exact isI.gx (isW.i1 (by assumption)) | exact isI.gc (isW.i1 (by assumption)) | exact isI.gx (isW.i2 (by assumption)) | exact isI.gc (isW.i2 (by assumption)) | exact isI.gx (isW.i3 (by assumption)) | exact isI.gc (isW.i3 (by assumption)) | exact isI.gx (isW.i4 (by assumption)) | exact isI.gc (isW.i4 (by assumption)) | exact isI.gx (isW.i5 (by assumption)) | exact isI.gc (isW.i5 (by assumption)) | exact isR.gx (by assumption) | exact isRd.gx (by assumption) | exact isSp.gx (by assumption) | exact isI.gx (isR.i (by assumption)) | exact isI.gx (isRd.i (by assumption)) | exact isI.gc (isRd.i (by assumption)) | exact isI.gx (isSp.i (by assumption)) | exact isW.gx (isR.w (by assumption)) | exact isW.gF (isR.w (by assumption)) | fail "no such object") (by rfl) ?_
      refine r_getf (pc := 29) dX2_here_29 fX2_65 (by first | assumption | exact isI.gx (by assumption) | exact isI.gc (by assumption) | exact isW.gx (by assumption) | exact isW.gF (by assumption) | exact isW.gT (by assumption) (by omega) | exact isW.gS (by assumption) (by omega) | exact isW.gK (by assumption) (by omega) | exact isW.g1 (by assumption) | exact isW.g2 (by assumption) | exact isW.g3 (by assumption) | exact isI.gx (isW.i0 (by assumption)) | exact isI.gc (isW.i0 (by assumption)) | exact isI.gx (isW.i1 (by assumption)) | exact isI.gc (isW.i1 (by assumption)) | exact isI.gx (isW.i2 (by assumption)) | exact isI.gc (isW.i2 (by assumption)) | exact isI.gx (isW.i3 (by assumption)) | exact isI.gc (isW.i3 (by assumption)) | exact isI.gx (isW.i4 (by assumption)) | exact isI.gc (isW.i4 (by assumption)) | exact isI.gx (isW.i5 (by assumption)) | exact isI.gc (isW.i5 (by assumption)) | exact isR.gx (by assumption) | exact isRd.gx (by assumption) | exact isSp.gx (by assumption) | exact isI.gx (isR.i (by assumption)) | exact isI.gx (isRd.i (by assumption)) | exact isI.gc (isRd.i (by assumption)) | exact isI.gx (isSp.i (by assumption)) | exact isW.gx (isR.w (by assumption)) | exact isW.gF (isR.w (by assumption)) | fail "no such object") (by rfl) ?_
      first | refine rj_alen (pc := 32) dX2_here_32 (by first | assumption | exact isI.gx (by assumption) | exact isI.gc (by assumption) | exact isW.gx (by assumption) | exact isW.gF (by assumption) | exact isW.gT (by assumption) (by omega) | exact isW.gS (by assumption) (by omega) | exact isW.gK (by assumption) (by omega) | exact isW.g1 (by assumption) | exact isW.g2 (by assumption) | exact isW.g3 (by assumption) | exact isI.gx (isW.i0 (by assumption)) | exact isI.gc (isW.i0 (by assumption)) | exact isI.gx (isW.i1 (by assumption)) | exact isI.gc (isW.i1 (by assumption)) | exact isI.gx (isW.i2 (by assumption)) | exact isI.gc (isW.i2 (by assumption)) | exact isI.gx (isW.i3 (by assumption)) | exact isI.gc (isW.i3 (by assumption)) | exact isI.gx (isW.i4 (by assumption)) | exact isI.gc (isW.i4 (by assumption)) | exact isI.gx (isW.i5 (by assumption)) | exact isI.gc (isW.i5 (by assumption)) | exact isR.gx (by assumption) | exact isRd.gx (by assumption) | exact isSp.gx (by assumption) | exact isI.gx (isR.i (by assumption)) | exact isI.gx (isRd.i (by assumption)) | exact isI.gc (isRd.i (by assumption)) | exact isI.gx (isSp.i (by assumption)) | exact isW.gx (isR.w (by assumption)) | exact isW.gF (isR.w (by assumption)) | fail "no such object") ?_ | refine rj_alenR (pc := 32) dX2_here_32 (by first | assumption | exact isI.gx (by assumption) | exact isI.gc (by assumption) | exact isW.gx (by assumption) | exact isW.gF (by assumption) | exact isW.gT (by assumption) (by omega) | exact isW.gS (by assumption) (by omega) | exact isW.gK (by assumption) (by omega) | exact isW.g1 (by assumption) | exact isW.g2 (by assumption) | exact isW.g3 (by assumption) | exact isI.gx (isW.i0 (by assumption)) | exact isI.gc (isW.i0 (by assumption)) | exact isI.gx (isW.i1 (by assumption)) | exact isI.gc (isW.i1 (by assumption)) | exact isI.gx (isW.i2 (by assumption)) | exact isI.gc (isW.i2 (by assumption)) | exact isI.gx (isW.i3 (by assumption)) | exact isI.gc (isW.i3 (by assumption)) | exact isI.gx (isW.i4 (by assumption)) | exact isI.gc (isW.i4 (by assumption)) | exact isI.gx (isW.i5 (by assumption)) | exact isI.gc (isW.i5 (by assumption)) | exact isR.gx (by assumption) | exact isRd.gx (by assumption) | exact isSp.gx (by assumption) | exact isI.gx (isR.i (by assumption)) | exact isI.gx (isRd.i (by assumption)) | exact isI.gc (isRd.i (by assumption)) | exact isI.gx (isSp.i (by assumption)) | exact isW.gx (isR.w (by assumption)) | exact isW.gF (isR.w (by assumption)) | fail "no such object") ?_
      refine rj_icmp_ge (pc := 33) (tgt := 40) dX2_here_33 (by decide) (by first | exact b01_r | exact bz_r | omega | (constructor <;> omega) | apply_assumption | (apply atF_r; assumption) | fail "no range") (by first | exact b01_r | exact bz_r | omega | (constructor <;> omega) | apply_assumption | (apply atF_r; assumption) | fail "no range") (fun c_33 => ?_) (fun c_33 => ?_)
      · refine rj_iconst (pc := 40) dX2_here_40 ?_
        refine r_istore_n (pc := 41) dX2_here_41 (Nat.le_of_ble_eq_true rfl) ?_
        dsimp only [lsSt, List.set, mLs, mEnt]
        refine r_iload_n (pc := 42) dX2_here_42 rfl ?_
        refine rj_if_eq (pc := 43) (tgt := 61) dX2_here_43 (by decide) (by first | exact b01_r | exact bz_r | omega | (constructor <;> omega) | apply_assumption | (apply atF_r; assumption) | fail "no range") (fun c_43 => ?_) (fun c_43 => ?_)
        · try simp only [b01_0, bz_0, Classical.not_not] at c_43
          refine rj_iconst (pc := 61) dX2_here_61 ?_
          refine r_ireturn (pc := 62) .int dX2_here_62 rfl (by first | rfl | assumption) ?_
          first
          | exact ⟨by unfold hereC; rw [if_pos (by omega)], rfl⟩
          | exact ⟨by unfold hereC; rw [if_neg (by omega)], rfl⟩
        · try simp only [b01_0, bz_0, Classical.not_not] at c_43
          exfalso
          first | omega | exact absurd trivial ‹¬ True›
      · refine rj_iconst (pc := 36) dX2_here_36 ?_
        refine r_goto (pc := 37) (tgt := 41) dX2_here_37 (by decide) ?_
        refine r_istore_n (pc := 41) dX2_here_41 (Nat.le_of_ble_eq_true rfl) ?_
        dsimp only [lsSt, List.set, mLs, mEnt]
        refine r_iload_n (pc := 42) dX2_here_42 rfl ?_
        refine rj_if_eq (pc := 43) (tgt := 61) dX2_here_43 (by decide) (by first | exact b01_r | exact bz_r | omega | (constructor <;> omega) | apply_assumption | (apply atF_r; assumption) | fail "no range") (fun c_43 => ?_) (fun c_43 => ?_)
        · try simp only [b01_0, bz_0, Classical.not_not] at c_43
          exfalso
          first | omega | exact absurd trivial ‹¬ True›
        · try simp only [b01_0, bz_0, Classical.not_not] at c_43
          refine r_aload_n (pc := 46) dX2_here_46 rfl (by first | rfl | exact isRefV_rf _) ?_
          refine r_getf (pc := 47) dX2_here_47 fX2_14 (by first | assumption | exact isI.gx (by assumption) | exact isI.gc (by assumption) | exact isW.gx (by assumption) | exact isW.gF (by assumption) | exact isW.gT (by assumption) (by omega) | exact isW.gS (by assumption) (by omega) | exact isW.gK (by assumption) (by omega) | exact isW.g1 (by assumption) | exact isW.g2 (by assumption) | exact isW.g3 (by assumption) | exact isI.gx (isW.i0 (by assumption)) | exact isI.gc (isW.i0 (by assumption)) | exact isI.gx (isW.i1 (by assumption)) | exact isI.gc (isW.i1 (by assumption)) | exact isI.gx (isW.i2 (by assumption)) | exact isI.gc (isW.i2 (by assumption)) | exact isI.gx (isW.i3 (by assumption)) | exact isI.gc (isW.i3 (by assumption)) | exact isI.gx (isW.i4 (by assumption)) | exact isI.gc (isW.i4 (by assumption)) | exact isI.gx (isW.i5 (by assumption)) | exact isI.gc (isW.i5 (by assumption)) | exact isR.gx (by assumption) | exact isRd.gx (by assumption) | exact isSp.gx (by assumption) | exact isI.gx (isR.i (by assumption)) | exact isI.gx (isRd.i (by assumption)) | exact isI.gc (isRd.i (by assumption)) | exact isI.gx (isSp.i (by assumption)) | exact isW.gx (isR.w (by assumption)) | exact isW.gF (isR.w (by assumption)) | fail "no such object") (by rfl) ?_
          refine r_getf (pc := 50) dX2_here_50 fX2_65 (by first | assumption | exact isI.gx (by assumption) | exact isI.gc (by assumption) | exact isW.gx (by assumption) | exact isW.gF (by assumption) | exact isW.gT (by assumption) (by omega) | exact isW.gS (by assumption) (by omega) | exact isW.gK (by assumption) (by omega) | exact isW.g1 (by assumption) | exact isW.g2 (by assumption) | exact isW.g3 (by assumption) | exact isI.gx (isW.i0 (by assumption)) | exact isI.gc (isW.i0 (by assumption)) | exact isI.gx (isW.i1 (by assumption)) | exact isI.gc (isW.i1 (by assumption)) | exact isI.gx (isW.i2 (by assumption)) | exact isI.gc (isW.i2 (by assumption)) | exact isI.gx (isW.i3 (by assumption)) | exact isI.gc (isW.i3 (by assumption)) | exact isI.gx (isW.i4 (by assumption)) | exact isI.gc (isW.i4 (by assumption)) | exact isI.gx (isW.i5 (by assumption)) | exact isI.gc (isW.i5 (by assumption)) | exact isR.gx (by assumption) | exact isRd.gx (by assumption) | exact isSp.gx (by assumption) | exact isI.gx (isR.i (by assumption)) | exact isI.gx (isRd.i (by assumption)) | exact isI.gc (isRd.i (by assumption)) | exact isI.gx (isSp.i (by assumption)) | exact isW.gx (isR.w (by assumption)) | exact isW.gF (isR.w (by assumption)) | fail "no such object") (by rfl) ?_
          refine r_aload_n (pc := 53) dX2_here_53 rfl (by first | rfl | exact isRefV_rf _) ?_
          refine r_getf (pc := 54) dX2_here_54 fX2_53 (by first | assumption | exact isI.gx (by assumption) | exact isI.gc (by assumption) | exact isW.gx (by assumption) | exact isW.gF (by assumption) | exact isW.gT (by assumption) (by omega) | exact isW.gS (by assumption) (by omega) | exact isW.gK (by assumption) (by omega) | exact isW.g1 (by assumption) | exact isW.g2 (by assumption) | exact isW.g3 (by assumption) | exact isI.gx (isW.i0 (by assumption)) | exact isI.gc (isW.i0 (by assumption)) | exact isI.gx (isW.i1 (by assumption)) | exact isI.gc (isW.i1 (by assumption)) | exact isI.gx (isW.i2 (by assumption)) | exact isI.gc (isW.i2 (by assumption)) | exact isI.gx (isW.i3 (by assumption)) | exact isI.gc (isW.i3 (by assumption)) | exact isI.gx (isW.i4 (by assumption)) | exact isI.gc (isW.i4 (by assumption)) | exact isI.gx (isW.i5 (by assumption)) | exact isI.gc (isW.i5 (by assumption)) | exact isR.gx (by assumption) | exact isRd.gx (by assumption) | exact isSp.gx (by assumption) | exact isI.gx (isR.i (by assumption)) | exact isI.gx (isRd.i (by assumption)) | exact isI.gc (isRd.i (by assumption)) | exact isI.gx (isSp.i (by assumption)) | exact isW.gx (isR.w (by assumption)) | exact isW.gF (isR.w (by assumption)) | fail "no such object") (by rfl) ?_
          refine rj_iald (pc := 57) dX2_here_57 (by first | assumption | exact isI.gx (by assumption) | exact isI.gc (by assumption) | exact isW.gx (by assumption) | exact isW.gF (by assumption) | exact isW.gT (by assumption) (by omega) | exact isW.gS (by assumption) (by omega) | exact isW.gK (by assumption) (by omega) | exact isW.g1 (by assumption) | exact isW.g2 (by assumption) | exact isW.g3 (by assumption) | exact isI.gx (isW.i0 (by assumption)) | exact isI.gc (isW.i0 (by assumption)) | exact isI.gx (isW.i1 (by assumption)) | exact isI.gc (isW.i1 (by assumption)) | exact isI.gx (isW.i2 (by assumption)) | exact isI.gc (isW.i2 (by assumption)) | exact isI.gx (isW.i3 (by assumption)) | exact isI.gc (isW.i3 (by assumption)) | exact isI.gx (isW.i4 (by assumption)) | exact isI.gc (isW.i4 (by assumption)) | exact isI.gx (isW.i5 (by assumption)) | exact isI.gc (isW.i5 (by assumption)) | exact isR.gx (by assumption) | exact isRd.gx (by assumption) | exact isSp.gx (by assumption) | exact isI.gx (isR.i (by assumption)) | exact isI.gx (isRd.i (by assumption)) | exact isI.gc (isRd.i (by assumption)) | exact isI.gx (isSp.i (by assumption)) | exact isW.gx (isR.w (by assumption)) | exact isW.gF (isR.w (by assumption)) | fail "no such object") (by first | exact b01_r | exact bz_r | omega | (constructor <;> omega) | apply_assumption | (apply atF_r; assumption) | fail "no range") (by first | exact b01_r | exact bz_r | omega | (constructor <;> omega) | apply_assumption | (apply atF_r; assumption) | fail "no range") (by first | exact b01_r | exact bz_r | omega | (constructor <;> omega) | apply_assumption | (apply atF_r; assumption) | fail "no range") rfl ?_
          refine r_goto (pc := 58) (tgt := 62) dX2_here_58 (by decide) ?_
          refine r_ireturn (pc := 62) .int dX2_here_62 rfl (by first | rfl | assumption) ?_
          first
          | exact ⟨by unfold hereC; rw [if_pos (by omega)], rfl⟩
          | exact ⟨by unfold hereC; rw [if_neg (by omega)], rfl⟩
theorem hereC_0 (p : Int) (f : Nat → Int) : hereC p 0 f = -1 := by unfold hereC; rw [if_neg (by omega)]
set_option maxHeartbeats 4000000 in
set_option maxRecDepth 100000 in
theorem cd_here0 {G : mG} {l : Launch} (d : Nat) {h : mH} {a : Nat} {p e o : Int} {f : Nat → Int} (hD : isRd h a p e o 0 f) (hp : InR p) : RUNM G l (d) mX2_here [.ref a] h (fun v h' => v = some (.int (J (-1))) ∧ h' = h) := by
  refine RUNM.of (by decide +kernel) (Nat.le_of_ble_eq_true rfl) ?_
  refine r_aload_n (pc := 0) dX2_here_0 rfl (by first | rfl | exact isRefV_rf _) ?_
  refine r_getf (pc := 1) dX2_here_1 fX2_53 (by first | assumption | exact isI.gx (by assumption) | exact isI.gc (by assumption) | exact isW.gx (by assumption) | exact isW.gF (by assumption) | exact isW.gT (by assumption) (by omega) | exact isW.gS (by assumption) (by omega) | exact isW.gK (by assumption) (by omega) | exact isW.g1 (by assumption) | exact isW.g2 (by assumption) | exact isW.g3 (by assumption) | exact isI.gx (isW.i0 (by assumption)) | exact isI.gc (isW.i0 (by assumption)) | exact isI.gx (isW.i1 (by assumption)) | exact isI.gc (isW.i1 (by assumption)) | exact isI.gx (isW.i2 (by assumption)) | exact isI.gc (isW.i2 (by assumption)) | exact isI.gx (isW.i3 (by assumption)) | exact isI.gc (isW.i3 (by assumption)) | exact isI.gx (isW.i4 (by assumption)) | exact isI.gc (isW.i4 (by assumption)) | exact isI.gx (isW.i5 (by assumption)) | exact isI.gc (isW.i5 (by assumption)) | exact isR.gx (by assumption) | exact isRd.gx (by assumption) | exact isSp.gx (by assumption) | exact isI.gx (isR.i (by assumption)) | exact isI.gx (isRd.i (by assumption)) | exact isI.gc (isRd.i (by assumption)) | exact isI.gx (isSp.i (by assumption)) | exact isW.gx (isR.w (by assumption)) | exact isW.gF (isR.w (by assumption)) | fail "no such object") (by rfl) ?_
  refine rj_if_lt (pc := 4) (tgt := 40) dX2_here_4 (by decide) (by first | exact b01_r | exact bz_r | omega | (constructor <;> omega) | apply_assumption | (apply atF_r; assumption) | fail "no range") (fun c_4 => ?_) (fun c_4 => ?_)
  · refine rj_iconst (pc := 40) dX2_here_40 ?_
    refine r_istore_n (pc := 41) dX2_here_41 (Nat.le_of_ble_eq_true rfl) ?_
    dsimp only [lsSt, List.set, mLs, mEnt]
    refine r_iload_n (pc := 42) dX2_here_42 rfl ?_
    refine rj_if_eq (pc := 43) (tgt := 61) dX2_here_43 (by decide) (by first | exact b01_r | exact bz_r | omega | (constructor <;> omega) | apply_assumption | (apply atF_r; assumption) | fail "no range") (fun c_43 => ?_) (fun c_43 => ?_)
    · try simp only [b01_0, bz_0, Classical.not_not] at c_43
      refine rj_iconst (pc := 61) dX2_here_61 ?_
      refine r_ireturn (pc := 62) .int dX2_here_62 rfl (by first | rfl | assumption) ?_
      exact ⟨rfl, rfl⟩
    · try simp only [b01_0, bz_0, Classical.not_not] at c_43
      exfalso
      first | omega | exact absurd trivial ‹¬ True›
  · refine r_aload_n (pc := 7) dX2_here_7 rfl (by first | rfl | exact isRefV_rf _) ?_
    refine r_getf (pc := 8) dX2_here_8 fX2_53 (by first | assumption | exact isI.gx (by assumption) | exact isI.gc (by assumption) | exact isW.gx (by assumption) | exact isW.gF (by assumption) | exact isW.gT (by assumption) (by omega) | exact isW.gS (by assumption) (by omega) | exact isW.gK (by assumption) (by omega) | exact isW.g1 (by assumption) | exact isW.g2 (by assumption) | exact isW.g3 (by assumption) | exact isI.gx (isW.i0 (by assumption)) | exact isI.gc (isW.i0 (by assumption)) | exact isI.gx (isW.i1 (by assumption)) | exact isI.gc (isW.i1 (by assumption)) | exact isI.gx (isW.i2 (by assumption)) | exact isI.gc (isW.i2 (by assumption)) | exact isI.gx (isW.i3 (by assumption)) | exact isI.gc (isW.i3 (by assumption)) | exact isI.gx (isW.i4 (by assumption)) | exact isI.gc (isW.i4 (by assumption)) | exact isI.gx (isW.i5 (by assumption)) | exact isI.gc (isW.i5 (by assumption)) | exact isR.gx (by assumption) | exact isRd.gx (by assumption) | exact isSp.gx (by assumption) | exact isI.gx (isR.i (by assumption)) | exact isI.gx (isRd.i (by assumption)) | exact isI.gc (isRd.i (by assumption)) | exact isI.gx (isSp.i (by assumption)) | exact isW.gx (isR.w (by assumption)) | exact isW.gF (isR.w (by assumption)) | fail "no such object") (by rfl) ?_
    refine r_aload_n (pc := 11) dX2_here_11 rfl (by first | rfl | exact isRefV_rf _) ?_
    refine r_getf (pc := 12) dX2_here_12 fX2_14 (by first | assumption | exact isI.gx (by assumption) | exact isI.gc (by assumption) | exact isW.gx (by assumption) | exact isW.gF (by assumption) | exact isW.gT (by assumption) (by omega) | exact isW.gS (by assumption) (by omega) | exact isW.gK (by assumption) (by omega) | exact isW.g1 (by assumption) | exact isW.g2 (by assumption) | exact isW.g3 (by assumption) | exact isI.gx (isW.i0 (by assumption)) | exact isI.gc (isW.i0 (by assumption)) | exact isI.gx (isW.i1 (by assumption)) | exact isI.gc (isW.i1 (by assumption)) | exact isI.gx (isW.i2 (by assumption)) | exact isI.gc (isW.i2 (by assumption)) | exact isI.gx (isW.i3 (by assumption)) | exact isI.gc (isW.i3 (by assumption)) | exact isI.gx (isW.i4 (by assumption)) | exact isI.gc (isW.i4 (by assumption)) | exact isI.gx (isW.i5 (by assumption)) | exact isI.gc (isW.i5 (by assumption)) | exact isR.gx (by assumption) | exact isRd.gx (by assumption) | exact isSp.gx (by assumption) | exact isI.gx (isR.i (by assumption)) | exact isI.gx (isRd.i (by assumption)) | exact isI.gc (isRd.i (by assumption)) | exact isI.gx (isSp.i (by assumption)) | exact isW.gx (isR.w (by assumption)) | exact isW.gF (isR.w (by assumption)) | fail "no such object") (by rfl) ?_
    refine r_getf (pc := 15) dX2_here_15 fX2_62 (by first | assumption | exact isI.gx (by assumption) | exact isI.gc (by assumption) | exact isW.gx (by assumption) | exact isW.gF (by assumption) | exact isW.gT (by assumption) (by omega) | exact isW.gS (by assumption) (by omega) | exact isW.gK (by assumption) (by omega) | exact isW.g1 (by assumption) | exact isW.g2 (by assumption) | exact isW.g3 (by assumption) | exact isI.gx (isW.i0 (by assumption)) | exact isI.gc (isW.i0 (by assumption)) | exact isI.gx (isW.i1 (by assumption)) | exact isI.gc (isW.i1 (by assumption)) | exact isI.gx (isW.i2 (by assumption)) | exact isI.gc (isW.i2 (by assumption)) | exact isI.gx (isW.i3 (by assumption)) | exact isI.gc (isW.i3 (by assumption)) | exact isI.gx (isW.i4 (by assumption)) | exact isI.gc (isW.i4 (by assumption)) | exact isI.gx (isW.i5 (by assumption)) | exact isI.gc (isW.i5 (by assumption)) | exact isR.gx (by assumption) | exact isRd.gx (by assumption) | exact isSp.gx (by assumption) | exact isI.gx (isR.i (by assumption)) | exact isI.gx (isRd.i (by assumption)) | exact isI.gc (isRd.i (by assumption)) | exact isI.gx (isSp.i (by assumption)) | exact isW.gx (isR.w (by assumption)) | exact isW.gF (isR.w (by assumption)) | fail "no such object") (by rfl) ?_
    refine rj_icmp_ge (pc := 18) (tgt := 40) dX2_here_18 (by decide) (by first | exact b01_r | exact bz_r | omega | (constructor <;> omega) | apply_assumption | (apply atF_r; assumption) | fail "no range") (by first | exact b01_r | exact bz_r | omega | (constructor <;> omega) | apply_assumption | (apply atF_r; assumption) | fail "no range") (fun c_18 => ?_) (fun c_18 => ?_)
    · refine rj_iconst (pc := 40) dX2_here_40 ?_
      refine r_istore_n (pc := 41) dX2_here_41 (Nat.le_of_ble_eq_true rfl) ?_
      dsimp only [lsSt, List.set, mLs, mEnt]
      refine r_iload_n (pc := 42) dX2_here_42 rfl ?_
      refine rj_if_eq (pc := 43) (tgt := 61) dX2_here_43 (by decide) (by first | exact b01_r | exact bz_r | omega | (constructor <;> omega) | apply_assumption | (apply atF_r; assumption) | fail "no range") (fun c_43 => ?_) (fun c_43 => ?_)
      · try simp only [b01_0, bz_0, Classical.not_not] at c_43
        refine rj_iconst (pc := 61) dX2_here_61 ?_
        refine r_ireturn (pc := 62) .int dX2_here_62 rfl (by first | rfl | assumption) ?_
        exact ⟨rfl, rfl⟩
      · try simp only [b01_0, bz_0, Classical.not_not] at c_43
        exfalso
        first | omega | exact absurd trivial ‹¬ True›
    · exfalso
      first | omega | exact absurd trivial ‹¬ True›
set_option maxHeartbeats 4000000 in
set_option maxRecDepth 100000 in
theorem cd_failAt {G : mG} {l : Launch} (d : Nat) {h : mH} {a : Nat} {p e o z : Int} {f : Nat → Int} (hD : isRd h a p e o z f) (he : InR e) (he0 : e < 0) (i : Int) : RUNM G l (d) mX2_failAt [.ref a, .int (J i)] h (fun v h' => v = none ∧ isRd h' a z i o z f ∧ Same (dBlk a) h h') := by
  refine RUNM.of (by decide +kernel) (Nat.le_of_ble_eq_true rfl) ?_
  refine r_aload_n (pc := 0) dX2_failAt_0 rfl (by first | rfl | exact isRefV_rf _) ?_
  refine r_getf (pc := 1) dX2_failAt_1 fX2_49 (by first | assumption | exact isI.gx (by assumption) | exact isI.gc (by assumption) | exact isW.gx (by assumption) | exact isW.gF (by assumption) | exact isW.gT (by assumption) (by omega) | exact isW.gS (by assumption) (by omega) | exact isW.gK (by assumption) (by omega) | exact isW.g1 (by assumption) | exact isW.g2 (by assumption) | exact isW.g3 (by assumption) | exact isI.gx (isW.i0 (by assumption)) | exact isI.gc (isW.i0 (by assumption)) | exact isI.gx (isW.i1 (by assumption)) | exact isI.gc (isW.i1 (by assumption)) | exact isI.gx (isW.i2 (by assumption)) | exact isI.gc (isW.i2 (by assumption)) | exact isI.gx (isW.i3 (by assumption)) | exact isI.gc (isW.i3 (by assumption)) | exact isI.gx (isW.i4 (by assumption)) | exact isI.gc (isW.i4 (by assumption)) | exact isI.gx (isW.i5 (by assumption)) | exact isI.gc (isW.i5 (by assumption)) | exact isR.gx (by assumption) | exact isRd.gx (by assumption) | exact isSp.gx (by assumption) | exact isI.gx (isR.i (by assumption)) | exact isI.gx (isRd.i (by assumption)) | exact isI.gc (isRd.i (by assumption)) | exact isI.gx (isSp.i (by assumption)) | exact isW.gx (isR.w (by assumption)) | exact isW.gF (isR.w (by assumption)) | fail "no such object") (by rfl) ?_
  refine rj_if_ge (pc := 4) (tgt := 12) dX2_failAt_4 (by decide) (by first | exact b01_r | exact bz_r | omega | (constructor <;> omega) | apply_assumption | (apply atF_r; assumption) | fail "no range") (fun c_4 => ?_) (fun c_4 => ?_)
  · exfalso
    first | omega | exact absurd trivial ‹¬ True›
  · refine r_aload_n (pc := 7) dX2_failAt_7 rfl (by first | rfl | exact isRefV_rf _) ?_
    refine r_iload_n (pc := 8) dX2_failAt_8 rfl ?_
    refine rc_putD2 (pc := 9) dX2_failAt_9 fX2_49 (by assumption) (fun h_9 hW_9 hS_9 => ?_)
    refine r_aload_n (pc := 12) dX2_failAt_12 rfl (by first | rfl | exact isRefV_rf _) ?_
    refine r_aload_n (pc := 13) dX2_failAt_13 rfl (by first | rfl | exact isRefV_rf _) ?_
    refine r_getf (pc := 14) dX2_failAt_14 fX2_14 (by first | assumption | exact isI.gx (by assumption) | exact isI.gc (by assumption) | exact isW.gx (by assumption) | exact isW.gF (by assumption) | exact isW.gT (by assumption) (by omega) | exact isW.gS (by assumption) (by omega) | exact isW.gK (by assumption) (by omega) | exact isW.g1 (by assumption) | exact isW.g2 (by assumption) | exact isW.g3 (by assumption) | exact isI.gx (isW.i0 (by assumption)) | exact isI.gc (isW.i0 (by assumption)) | exact isI.gx (isW.i1 (by assumption)) | exact isI.gc (isW.i1 (by assumption)) | exact isI.gx (isW.i2 (by assumption)) | exact isI.gc (isW.i2 (by assumption)) | exact isI.gx (isW.i3 (by assumption)) | exact isI.gc (isW.i3 (by assumption)) | exact isI.gx (isW.i4 (by assumption)) | exact isI.gc (isW.i4 (by assumption)) | exact isI.gx (isW.i5 (by assumption)) | exact isI.gc (isW.i5 (by assumption)) | exact isR.gx (by assumption) | exact isRd.gx (by assumption) | exact isSp.gx (by assumption) | exact isI.gx (isR.i (by assumption)) | exact isI.gx (isRd.i (by assumption)) | exact isI.gc (isRd.i (by assumption)) | exact isI.gx (isSp.i (by assumption)) | exact isW.gx (isR.w (by assumption)) | exact isW.gF (isR.w (by assumption)) | fail "no such object") (by rfl) ?_
    refine r_getf (pc := 17) dX2_failAt_17 fX2_62 (by first | assumption | exact isI.gx (by assumption) | exact isI.gc (by assumption) | exact isW.gx (by assumption) | exact isW.gF (by assumption) | exact isW.gT (by assumption) (by omega) | exact isW.gS (by assumption) (by omega) | exact isW.gK (by assumption) (by omega) | exact isW.g1 (by assumption) | exact isW.g2 (by assumption) | exact isW.g3 (by assumption) | exact isI.gx (isW.i0 (by assumption)) | exact isI.gc (isW.i0 (by assumption)) | exact isI.gx (isW.i1 (by assumption)) | exact isI.gc (isW.i1 (by assumption)) | exact isI.gx (isW.i2 (by assumption)) | exact isI.gc (isW.i2 (by assumption)) | exact isI.gx (isW.i3 (by assumption)) | exact isI.gc (isW.i3 (by assumption)) | exact isI.gx (isW.i4 (by assumption)) | exact isI.gc (isW.i4 (by assumption)) | exact isI.gx (isW.i5 (by assumption)) | exact isI.gc (isW.i5 (by assumption)) | exact isR.gx (by assumption) | exact isRd.gx (by assumption) | exact isSp.gx (by assumption) | exact isI.gx (isR.i (by assumption)) | exact isI.gx (isRd.i (by assumption)) | exact isI.gc (isRd.i (by assumption)) | exact isI.gx (isSp.i (by assumption)) | exact isW.gx (isR.w (by assumption)) | exact isW.gF (isR.w (by assumption)) | fail "no such object") (by rfl) ?_
    refine rc_putD1 (pc := 20) dX2_failAt_20 fX2_53 (by assumption) (fun h_20 hW_20 hS_20 => ?_)
    refine r_return (pc := 23) dX2_failAt_23 rfl ?_
    exact ⟨rfl, hW_20, hS_9.trans hS_20⟩
set_option maxHeartbeats 4000000 in
set_option maxRecDepth 100000 in
theorem cd_isLetter {G : mG} {l : Launch} (d : Nat) {h : mH} {i : Int} (hi : InR i) : RUNM G l (d) mX2_isLetter [.int (J i)] h (fun v h' => v = some (.int (J (b01 (97 ≤ i ∧ i ≤ 122)))) ∧ h' = h) := by
  refine RUNM.of (by decide +kernel) (Nat.le_of_ble_eq_true rfl) ?_
  refine r_iload_n (pc := 0) dX2_isLetter_0 rfl ?_
  refine rj_bipush (pc := 1) dX2_isLetter_1 (by decide +kernel) ?_
  refine rj_icmp_lt (pc := 3) (tgt := 16) dX2_isLetter_3 (by decide) (by first | exact b01_r | exact bz_r | omega | (constructor <;> omega) | apply_assumption | (apply atF_r; assumption) | fail "no range") (by first | exact b01_r | exact bz_r | omega | (constructor <;> omega) | apply_assumption | (apply atF_r; assumption) | fail "no range") (fun c_3 => ?_) (fun c_3 => ?_)
  · refine rj_iconst (pc := 16) dX2_isLetter_16 ?_
    refine r_ireturn (pc := 17) .boolean dX2_isLetter_17 rfl (by first | exact nar_J0 | exact nar_J1 | exact nar_b01 | exact nar_bz) ?_
    first
    | exact ⟨rfl, rfl⟩
    | exact ⟨vf (by omega), rfl⟩
    | exact ⟨vt (by omega), rfl⟩
  · refine r_iload_n (pc := 6) dX2_isLetter_6 rfl ?_
    refine rj_bipush (pc := 7) dX2_isLetter_7 (by decide +kernel) ?_
    refine rj_icmp_gt (pc := 9) (tgt := 16) dX2_isLetter_9 (by decide) (by first | exact b01_r | exact bz_r | omega | (constructor <;> omega) | apply_assumption | (apply atF_r; assumption) | fail "no range") (by first | exact b01_r | exact bz_r | omega | (constructor <;> omega) | apply_assumption | (apply atF_r; assumption) | fail "no range") (fun c_9 => ?_) (fun c_9 => ?_)
    · refine rj_iconst (pc := 16) dX2_isLetter_16 ?_
      refine r_ireturn (pc := 17) .boolean dX2_isLetter_17 rfl (by first | exact nar_J0 | exact nar_J1 | exact nar_b01 | exact nar_bz) ?_
      first
      | exact ⟨rfl, rfl⟩
      | exact ⟨vf (by omega), rfl⟩
      | exact ⟨vt (by omega), rfl⟩
    · refine rj_iconst (pc := 12) dX2_isLetter_12 ?_
      refine r_goto (pc := 13) (tgt := 17) dX2_isLetter_13 (by decide) ?_
      refine r_ireturn (pc := 17) .boolean dX2_isLetter_17 rfl (by first | exact nar_J0 | exact nar_J1 | exact nar_b01 | exact nar_bz) ?_
      first
      | exact ⟨rfl, rfl⟩
      | exact ⟨vf (by omega), rfl⟩
      | exact ⟨vt (by omega), rfl⟩
set_option maxHeartbeats 4000000 in
set_option maxRecDepth 100000 in
theorem L_readName {G : mG} {l : Launch} (d : Nat) {h : mH} {a : Nat} {p e o : Int} {f : Nat → Int} (hD : isRd h a p e o 0 f) (hp : InR p) : ∀ (k t : Nat) (y : Int64), t + k = 7 → RUN G l (d + 1) mX2_readName 22 [some (.ref a), some (.long y), none, some (.int (J (t : Int)))] [] h (fun v h' => (∃ n, v = some (.long n)) ∧ h' = h) := by
  intro k
  induction k with
  | zero =>
    intro t y ht
    refine r_iload_n (pc := 22) dX2_readName_22 rfl ?_
    refine rj_bipush (pc := 23) dX2_readName_23 (by decide +kernel) ?_
    refine rj_icmp_ge (pc := 25) (tgt := 71) dX2_readName_25 (by decide) (by first | exact b01_r | exact bz_r | omega | (constructor <;> omega) | apply_assumption | (apply atF_r; assumption) | fail "no range") (by first | exact b01_r | exact bz_r | omega | (constructor <;> omega) | apply_assumption | (apply atF_r; assumption) | fail "no range") (fun c_25 => ?_) (fun c_25 => ?_)
    · refine r_lload_n (pc := 71) dX2_readName_71 rfl ?_
      refine r_lreturn (pc := 72) dX2_readName_72 rfl ?_
      exact ⟨⟨_, rfl⟩, rfl⟩
    · exfalso
      first | omega | exact absurd trivial ‹¬ True›
  | succ k ih =>
    intro t y ht
    refine r_iload_n (pc := 22) dX2_readName_22 rfl ?_
    refine rj_bipush (pc := 23) dX2_readName_23 (by decide +kernel) ?_
    refine rj_icmp_ge (pc := 25) (tgt := 71) dX2_readName_25 (by decide) (by first | exact b01_r | exact bz_r | omega | (constructor <;> omega) | apply_assumption | (apply atF_r; assumption) | fail "no range") (by first | exact b01_r | exact bz_r | omega | (constructor <;> omega) | apply_assumption | (apply atF_r; assumption) | fail "no range") (fun c_25 => ?_) (fun c_25 => ?_)
    · refine r_lload_n (pc := 71) dX2_readName_71 rfl ?_
      refine r_lreturn (pc := 72) dX2_readName_72 rfl ?_
      exfalso; omega
    · refine r_lload_n (pc := 28) dX2_readName_28 rfl ?_
      refine rj_iconst (pc := 29) dX2_readName_29 ?_
      refine r_lshl (pc := 30) dX2_readName_30 ?_
      refine r_lstore_n (pc := 31) dX2_readName_31 (Nat.le_of_ble_eq_true rfl) ?_
      dsimp only [lsSt, lsSt2, List.set, mLs, mEnt]
      refine r_aload_n (pc := 32) dX2_readName_32 rfl (by first | rfl | exact isRefV_rf _) ?_
      refine r_callV0 (pc := 33) dX2_readName_33 qX2_here kX2_34 vX2_here (by first | assumption | exact isI.gx (by assumption) | exact isI.gc (by assumption) | exact isW.gx (by assumption) | exact isW.gF (by assumption) | exact isW.gT (by assumption) (by omega) | exact isW.gS (by assumption) (by omega) | exact isW.gK (by assumption) (by omega) | exact isW.g1 (by assumption) | exact isW.g2 (by assumption) | exact isW.g3 (by assumption) | exact isI.gx (isW.i0 (by assumption)) | exact isI.gc (isW.i0 (by assumption)) | exact isI.gx (isW.i1 (by assumption)) | exact isI.gc (isW.i1 (by assumption)) | exact isI.gx (isW.i2 (by assumption)) | exact isI.gc (isW.i2 (by assumption)) | exact isI.gx (isW.i3 (by assumption)) | exact isI.gc (isW.i3 (by assumption)) | exact isI.gx (isW.i4 (by assumption)) | exact isI.gc (isW.i4 (by assumption)) | exact isI.gx (isW.i5 (by assumption)) | exact isI.gc (isW.i5 (by assumption)) | exact isR.gx (by assumption) | exact isRd.gx (by assumption) | exact isSp.gx (by assumption) | exact isI.gx (isR.i (by assumption)) | exact isI.gx (isRd.i (by assumption)) | exact isI.gc (isRd.i (by assumption)) | exact isI.gx (isSp.i (by assumption)) | exact isW.gx (isR.w (by assumption)) | exact isW.gF (isR.w (by assumption)) | fail "no such object") rfl rfl (Nat.le_of_ble_eq_true rfl) (cd_here0 _ hD hp) (fun v_33 h_33 q_33 => ?_)
      obtain ⟨rfl, rfl⟩ := q_33
      refine r_callS1 (pc := 36) dX2_readName_36 qX2_isLetter kX2_103 sX2_isLetter (Nat.le_of_ble_eq_true rfl) (cd_isLetter _ (i := -1) (by decide)) (fun v_36 h_36 q_36 => ?_)
      obtain ⟨rfl, rfl⟩ := q_36
      refine rj_if_eq (pc := 39) (tgt := 65) dX2_readName_39 (by decide) (by first | exact b01_r | exact bz_r | omega | (constructor <;> omega) | apply_assumption | (apply atF_r; assumption) | fail "no range") (fun c_39 => ?_) (fun c_39 => ?_)
      · try simp only [b01_0, bz_0, Classical.not_not] at c_39
        refine rj_iinc (pc := 65) dX2_readName_65 (Nat.le_of_ble_eq_true rfl) rfl ?_
        dsimp only [lsSt, List.set, mLs, mEnt]
        refine r_goto (pc := 68) (tgt := 22) dX2_readName_68 (by decide) ?_
        exact ih (t + 1) _ (by omega)
      · try simp only [b01_0, bz_0, Classical.not_not] at c_39
        exfalso
        first | omega | exact absurd trivial ‹¬ True›
set_option maxHeartbeats 4000000 in
set_option maxRecDepth 100000 in
theorem cd_readName0 {G : mG} {l : Launch} (d : Nat) {h : mH} {a : Nat} {p e o : Int} {f : Nat → Int} (hD : isRd h a p e o 0 f) (hp : InR p) (he : InR e) (ho : InR o) (he0 : e < 0) : RUNM G l (d + 1) mX2_readName [.ref a] h (fun v h' => (∃ n, v = some (.long n)) ∧ isRd h' a 0 p o 0 f ∧ Same (dBlk a) h h') := by
  refine RUNM.of (by decide +kernel) (Nat.le_of_ble_eq_true rfl) ?_
  refine r_aload_n (pc := 0) dX2_readName_0 rfl (by first | rfl | exact isRefV_rf _) ?_
  refine r_callV0 (pc := 1) dX2_readName_1 qX2_here kX2_34 vX2_here (by first | assumption | exact isI.gx (by assumption) | exact isI.gc (by assumption) | exact isW.gx (by assumption) | exact isW.gF (by assumption) | exact isW.gT (by assumption) (by omega) | exact isW.gS (by assumption) (by omega) | exact isW.gK (by assumption) (by omega) | exact isW.g1 (by assumption) | exact isW.g2 (by assumption) | exact isW.g3 (by assumption) | exact isI.gx (isW.i0 (by assumption)) | exact isI.gc (isW.i0 (by assumption)) | exact isI.gx (isW.i1 (by assumption)) | exact isI.gc (isW.i1 (by assumption)) | exact isI.gx (isW.i2 (by assumption)) | exact isI.gc (isW.i2 (by assumption)) | exact isI.gx (isW.i3 (by assumption)) | exact isI.gc (isW.i3 (by assumption)) | exact isI.gx (isW.i4 (by assumption)) | exact isI.gc (isW.i4 (by assumption)) | exact isI.gx (isW.i5 (by assumption)) | exact isI.gc (isW.i5 (by assumption)) | exact isR.gx (by assumption) | exact isRd.gx (by assumption) | exact isSp.gx (by assumption) | exact isI.gx (isR.i (by assumption)) | exact isI.gx (isRd.i (by assumption)) | exact isI.gc (isRd.i (by assumption)) | exact isI.gx (isSp.i (by assumption)) | exact isW.gx (isR.w (by assumption)) | exact isW.gF (isR.w (by assumption)) | fail "no such object") rfl rfl (Nat.le_of_ble_eq_true rfl) (cd_here0 _ hD hp) (fun v_1 h_1 q_1 => ?_)
  obtain ⟨rfl, rfl⟩ := q_1
  refine r_callS1 (pc := 4) dX2_readName_4 qX2_isLetter kX2_103 sX2_isLetter (Nat.le_of_ble_eq_true rfl) (cd_isLetter _ (i := -1) (by decide)) (fun v_4 h_4 q_4 => ?_)
  obtain ⟨rfl, rfl⟩ := q_4
  refine rj_if_ne (pc := 7) (tgt := 18) dX2_readName_7 (by decide) (by first | exact b01_r | exact bz_r | omega | (constructor <;> omega) | apply_assumption | (apply atF_r; assumption) | fail "no range") (fun c_7 => ?_) (fun c_7 => ?_)
  · try simp only [b01_0, bz_0, Classical.not_not] at c_7
    exfalso
    first | omega | exact absurd trivial ‹¬ True›
  · try simp only [b01_0, bz_0, Classical.not_not] at c_7
    refine r_aload_n (pc := 10) dX2_readName_10 rfl (by first | rfl | exact isRefV_rf _) ?_
    refine r_aload_n (pc := 11) dX2_readName_11 rfl (by first | rfl | exact isRefV_rf _) ?_
    refine r_getf (pc := 12) dX2_readName_12 fX2_53 (by first | assumption | exact isI.gx (by assumption) | exact isI.gc (by assumption) | exact isW.gx (by assumption) | exact isW.gF (by assumption) | exact isW.gT (by assumption) (by omega) | exact isW.gS (by assumption) (by omega) | exact isW.gK (by assumption) (by omega) | exact isW.g1 (by assumption) | exact isW.g2 (by assumption) | exact isW.g3 (by assumption) | exact isI.gx (isW.i0 (by assumption)) | exact isI.gc (isW.i0 (by assumption)) | exact isI.gx (isW.i1 (by assumption)) | exact isI.gc (isW.i1 (by assumption)) | exact isI.gx (isW.i2 (by assumption)) | exact isI.gc (isW.i2 (by assumption)) | exact isI.gx (isW.i3 (by assumption)) | exact isI.gc (isW.i3 (by assumption)) | exact isI.gx (isW.i4 (by assumption)) | exact isI.gc (isW.i4 (by assumption)) | exact isI.gx (isW.i5 (by assumption)) | exact isI.gc (isW.i5 (by assumption)) | exact isR.gx (by assumption) | exact isRd.gx (by assumption) | exact isSp.gx (by assumption) | exact isI.gx (isR.i (by assumption)) | exact isI.gx (isRd.i (by assumption)) | exact isI.gc (isRd.i (by assumption)) | exact isI.gx (isSp.i (by assumption)) | exact isW.gx (isR.w (by assumption)) | exact isW.gF (isR.w (by assumption)) | fail "no such object") (by rfl) ?_
    refine r_callV1 (pc := 15) dX2_readName_15 qX2_failAt kX2_56 vX2_failAt (by first | assumption | exact isI.gx (by assumption) | exact isI.gc (by assumption) | exact isW.gx (by assumption) | exact isW.gF (by assumption) | exact isW.gT (by assumption) (by omega) | exact isW.gS (by assumption) (by omega) | exact isW.gK (by assumption) (by omega) | exact isW.g1 (by assumption) | exact isW.g2 (by assumption) | exact isW.g3 (by assumption) | exact isI.gx (isW.i0 (by assumption)) | exact isI.gc (isW.i0 (by assumption)) | exact isI.gx (isW.i1 (by assumption)) | exact isI.gc (isW.i1 (by assumption)) | exact isI.gx (isW.i2 (by assumption)) | exact isI.gc (isW.i2 (by assumption)) | exact isI.gx (isW.i3 (by assumption)) | exact isI.gc (isW.i3 (by assumption)) | exact isI.gx (isW.i4 (by assumption)) | exact isI.gc (isW.i4 (by assumption)) | exact isI.gx (isW.i5 (by assumption)) | exact isI.gc (isW.i5 (by assumption)) | exact isR.gx (by assumption) | exact isRd.gx (by assumption) | exact isSp.gx (by assumption) | exact isI.gx (isR.i (by assumption)) | exact isI.gx (isRd.i (by assumption)) | exact isI.gc (isRd.i (by assumption)) | exact isI.gx (isSp.i (by assumption)) | exact isW.gx (isR.w (by assumption)) | exact isW.gF (isR.w (by assumption)) | fail "no such object") rfl rfl (Nat.le_of_ble_eq_true rfl) (cd_failAt _ hD he he0 p) (fun v_15 h_15 q_15 => ?_)
    obtain ⟨rfl, hD_15, S_15⟩ := q_15
    refine r_lconst (pc := 18) (v := 0) dX2_readName_18 (by decide) ?_
    refine r_lstore_n (pc := 19) dX2_readName_19 (Nat.le_of_ble_eq_true rfl) ?_
    dsimp only [lsSt, lsSt2, List.set, mLs, mEnt]
    refine rj_iconst (pc := 20) dX2_readName_20 ?_
    refine r_istore_n (pc := 21) dX2_readName_21 (Nat.le_of_ble_eq_true rfl) ?_
    dsimp only [lsSt, List.set, mLs, mEnt]
    exact (L_readName d hD_15 (by decide) 7 0 _ (by omega)).mono (fun v h' g => ⟨g.1, g.2 ▸ hD_15, g.2 ▸ S_15⟩)
set_option maxHeartbeats 4000000 in
set_option maxRecDepth 100000 in
theorem cd_mayBegin0 {G : mG} {l : Launch} (d : Nat) {h : mH} {a : Nat} {i k : Int} : RUNM G l (d) mX2_mayBegin [.ref a, .int (J (-1)), .int (J i), .int (J k)] h (fun v h' => v = some (.int (J 0)) ∧ h' = h) := by
  refine RUNM.of (by decide +kernel) (Nat.le_of_ble_eq_true rfl) ?_
  refine r_iload_n (pc := 0) dX2_mayBegin_0 rfl ?_
  refine rj_lsw (pc := 1) dX2_mayBegin_1 rfl (by first | exact b01_r | exact bz_r | omega | (constructor <;> omega) | apply_assumption | (apply atF_r; assumption) | fail "no range") (by simp only [Op.lookupswitch.offset_cons, Op.lookupswitch.offset_nil]; repeat' split; all_goals omega) (fun off_1 tgt_1 ho_1 ht_1 => ?_)
  simp only [Op.lookupswitch.offset_cons, Op.lookupswitch.offset_nil] at ho_1
  by_cases e_1_33 : (33 : Int) = (-1 : Int)
  · rw [if_pos e_1_33] at ho_1
    obtain rfl : tgt_1 = 92 := by omega
    exfalso
    first | omega | exact absurd trivial ‹¬ True›
  rw [if_neg e_1_33] at ho_1
  by_cases e_1_40 : (40 : Int) = (-1 : Int)
  · rw [if_pos e_1_40] at ho_1
    obtain rfl : tgt_1 = 104 := by omega
    exfalso
    first | omega | exact absurd trivial ‹¬ True›
  rw [if_neg e_1_40] at ho_1
  by_cases e_1_41 : (41 : Int) = (-1 : Int)
  · rw [if_pos e_1_41] at ho_1
    obtain rfl : tgt_1 = 118 := by omega
    exfalso
    first | omega | exact absurd trivial ‹¬ True›
  rw [if_neg e_1_41] at ho_1
  by_cases e_1_43 : (43 : Int) = (-1 : Int)
  · rw [if_pos e_1_43] at ho_1
    obtain rfl : tgt_1 = 92 := by omega
    exfalso
    first | omega | exact absurd trivial ‹¬ True›
  rw [if_neg e_1_43] at ho_1
  by_cases e_1_46 : (46 : Int) = (-1 : Int)
  · rw [if_pos e_1_46] at ho_1
    obtain rfl : tgt_1 = 92 := by omega
    exfalso
    first | omega | exact absurd trivial ‹¬ True›
  rw [if_neg e_1_46] at ho_1
  by_cases e_1_63 : (63 : Int) = (-1 : Int)
  · rw [if_pos e_1_63] at ho_1
    obtain rfl : tgt_1 = 94 := by omega
    exfalso
    first | omega | exact absurd trivial ‹¬ True›
  rw [if_neg e_1_63] at ho_1
  by_cases e_1_97 : (97 : Int) = (-1 : Int)
  · rw [if_pos e_1_97] at ho_1
    obtain rfl : tgt_1 = 92 := by omega
    exfalso
    first | omega | exact absurd trivial ‹¬ True›
  rw [if_neg e_1_97] at ho_1
  by_cases e_1_107 : (107 : Int) = (-1 : Int)
  · rw [if_pos e_1_107] at ho_1
    obtain rfl : tgt_1 = 92 := by omega
    exfalso
    first | omega | exact absurd trivial ‹¬ True›
  rw [if_neg e_1_107] at ho_1
  by_cases e_1_109 : (109 : Int) = (-1 : Int)
  · rw [if_pos e_1_109] at ho_1
    obtain rfl : tgt_1 = 92 := by omega
    exfalso
    first | omega | exact absurd trivial ‹¬ True›
  rw [if_neg e_1_109] at ho_1
  by_cases e_1_120 : (120 : Int) = (-1 : Int)
  · rw [if_pos e_1_120] at ho_1
    obtain rfl : tgt_1 = 92 := by omega
    exfalso
    first | omega | exact absurd trivial ‹¬ True›
  rw [if_neg e_1_120] at ho_1
  obtain rfl : tgt_1 = 139 := by omega
  refine rj_iconst (pc := 139) dX2_mayBegin_139 ?_
  refine r_ireturn (pc := 140) .boolean dX2_mayBegin_140 rfl (by first | exact nar_J0 | exact nar_J1 | exact nar_b01 | exact nar_bz) ?_
  exact ⟨rfl, rfl⟩
set_option maxHeartbeats 4000000 in
set_option maxRecDepth 100000 in
theorem cd_readStep0 {G : mG} {l : Launch} (d : Nat) {h : mH} {a : Nat} {p e o : Int} {f : Nat → Int} (hD : isRd h a p e o 0 f) (hp : InR p) (he : InR e) (ho : InR o) (he0 : e < 0) {i k : Int} : RUNM G l (d + 2) mX2_readStep [.ref a, .int (J i), .int (J k)] h (fun v h' => v = some .null ∧ isRd h' a 0 p o 0 f ∧ Same (dBlk a) h h') := by
  refine RUNM.of (by decide +kernel) (Nat.le_of_ble_eq_true rfl) ?_
  refine r_aload_n (pc := 0) dX2_readStep_0 rfl (by first | rfl | exact isRefV_rf _) ?_
  refine r_callV0 (pc := 1) dX2_readStep_1 qX2_here kX2_34 vX2_here (by first | assumption | exact isI.gx (by assumption) | exact isI.gc (by assumption) | exact isW.gx (by assumption) | exact isW.gF (by assumption) | exact isW.gT (by assumption) (by omega) | exact isW.gS (by assumption) (by omega) | exact isW.gK (by assumption) (by omega) | exact isW.g1 (by assumption) | exact isW.g2 (by assumption) | exact isW.g3 (by assumption) | exact isI.gx (isW.i0 (by assumption)) | exact isI.gc (isW.i0 (by assumption)) | exact isI.gx (isW.i1 (by assumption)) | exact isI.gc (isW.i1 (by assumption)) | exact isI.gx (isW.i2 (by assumption)) | exact isI.gc (isW.i2 (by assumption)) | exact isI.gx (isW.i3 (by assumption)) | exact isI.gc (isW.i3 (by assumption)) | exact isI.gx (isW.i4 (by assumption)) | exact isI.gc (isW.i4 (by assumption)) | exact isI.gx (isW.i5 (by assumption)) | exact isI.gc (isW.i5 (by assumption)) | exact isR.gx (by assumption) | exact isRd.gx (by assumption) | exact isSp.gx (by assumption) | exact isI.gx (isR.i (by assumption)) | exact isI.gx (isRd.i (by assumption)) | exact isI.gc (isRd.i (by assumption)) | exact isI.gx (isSp.i (by assumption)) | exact isW.gx (isR.w (by assumption)) | exact isW.gF (isR.w (by assumption)) | fail "no such object") rfl rfl (Nat.le_of_ble_eq_true rfl) (cd_here0 _ hD hp) (fun v_1 h_1 q_1 => ?_)
  obtain ⟨rfl, rfl⟩ := q_1
  refine r_istore_n (pc := 4) dX2_readStep_4 (Nat.le_of_ble_eq_true rfl) ?_
  dsimp only [lsSt, List.set, mLs, mEnt]
  refine r_aload_n (pc := 5) dX2_readStep_5 rfl (by first | rfl | exact isRefV_rf _) ?_
  refine r_iload_n (pc := 6) dX2_readStep_6 rfl ?_
  refine r_iload_n (pc := 7) dX2_readStep_7 rfl ?_
  refine r_iload_n (pc := 8) dX2_readStep_8 rfl ?_
  refine r_callV3 (pc := 9) dX2_readStep_9 qX2_mayBegin kX2_76 vX2_mayBegin (by first | assumption | exact isI.gx (by assumption) | exact isI.gc (by assumption) | exact isW.gx (by assumption) | exact isW.gF (by assumption) | exact isW.gT (by assumption) (by omega) | exact isW.gS (by assumption) (by omega) | exact isW.gK (by assumption) (by omega) | exact isW.g1 (by assumption) | exact isW.g2 (by assumption) | exact isW.g3 (by assumption) | exact isI.gx (isW.i0 (by assumption)) | exact isI.gc (isW.i0 (by assumption)) | exact isI.gx (isW.i1 (by assumption)) | exact isI.gc (isW.i1 (by assumption)) | exact isI.gx (isW.i2 (by assumption)) | exact isI.gc (isW.i2 (by assumption)) | exact isI.gx (isW.i3 (by assumption)) | exact isI.gc (isW.i3 (by assumption)) | exact isI.gx (isW.i4 (by assumption)) | exact isI.gc (isW.i4 (by assumption)) | exact isI.gx (isW.i5 (by assumption)) | exact isI.gc (isW.i5 (by assumption)) | exact isR.gx (by assumption) | exact isRd.gx (by assumption) | exact isSp.gx (by assumption) | exact isI.gx (isR.i (by assumption)) | exact isI.gx (isRd.i (by assumption)) | exact isI.gc (isRd.i (by assumption)) | exact isI.gx (isSp.i (by assumption)) | exact isW.gx (isR.w (by assumption)) | exact isW.gF (isR.w (by assumption)) | fail "no such object") rfl rfl (Nat.le_of_ble_eq_true rfl) (cd_mayBegin0 (d + 1)) (fun v_9 h_9 q_9 => ?_)
  obtain ⟨rfl, rfl⟩ := q_9
  refine rj_if_ne (pc := 12) (tgt := 25) dX2_readStep_12 (by decide) (by first | exact b01_r | exact bz_r | omega | (constructor <;> omega) | apply_assumption | (apply atF_r; assumption) | fail "no range") (fun c_12 => ?_) (fun c_12 => ?_)
  · try simp only [b01_0, bz_0, Classical.not_not] at c_12
    exfalso
    first | omega | exact absurd trivial ‹¬ True›
  · try simp only [b01_0, bz_0, Classical.not_not] at c_12
    refine r_aload_n (pc := 15) dX2_readStep_15 rfl (by first | rfl | exact isRefV_rf _) ?_
    refine r_aload_n (pc := 16) dX2_readStep_16 rfl (by first | rfl | exact isRefV_rf _) ?_
    refine r_getf (pc := 17) dX2_readStep_17 fX2_53 (by first | assumption | exact isI.gx (by assumption) | exact isI.gc (by assumption) | exact isW.gx (by assumption) | exact isW.gF (by assumption) | exact isW.gT (by assumption) (by omega) | exact isW.gS (by assumption) (by omega) | exact isW.gK (by assumption) (by omega) | exact isW.g1 (by assumption) | exact isW.g2 (by assumption) | exact isW.g3 (by assumption) | exact isI.gx (isW.i0 (by assumption)) | exact isI.gc (isW.i0 (by assumption)) | exact isI.gx (isW.i1 (by assumption)) | exact isI.gc (isW.i1 (by assumption)) | exact isI.gx (isW.i2 (by assumption)) | exact isI.gc (isW.i2 (by assumption)) | exact isI.gx (isW.i3 (by assumption)) | exact isI.gc (isW.i3 (by assumption)) | exact isI.gx (isW.i4 (by assumption)) | exact isI.gc (isW.i4 (by assumption)) | exact isI.gx (isW.i5 (by assumption)) | exact isI.gc (isW.i5 (by assumption)) | exact isR.gx (by assumption) | exact isRd.gx (by assumption) | exact isSp.gx (by assumption) | exact isI.gx (isR.i (by assumption)) | exact isI.gx (isRd.i (by assumption)) | exact isI.gc (isRd.i (by assumption)) | exact isI.gx (isSp.i (by assumption)) | exact isW.gx (isR.w (by assumption)) | exact isW.gF (isR.w (by assumption)) | fail "no such object") (by rfl) ?_
    refine r_callV1 (pc := 20) dX2_readStep_20 qX2_failAt kX2_56 vX2_failAt (by first | assumption | exact isI.gx (by assumption) | exact isI.gc (by assumption) | exact isW.gx (by assumption) | exact isW.gF (by assumption) | exact isW.gT (by assumption) (by omega) | exact isW.gS (by assumption) (by omega) | exact isW.gK (by assumption) (by omega) | exact isW.g1 (by assumption) | exact isW.g2 (by assumption) | exact isW.g3 (by assumption) | exact isI.gx (isW.i0 (by assumption)) | exact isI.gc (isW.i0 (by assumption)) | exact isI.gx (isW.i1 (by assumption)) | exact isI.gc (isW.i1 (by assumption)) | exact isI.gx (isW.i2 (by assumption)) | exact isI.gc (isW.i2 (by assumption)) | exact isI.gx (isW.i3 (by assumption)) | exact isI.gc (isW.i3 (by assumption)) | exact isI.gx (isW.i4 (by assumption)) | exact isI.gc (isW.i4 (by assumption)) | exact isI.gx (isW.i5 (by assumption)) | exact isI.gc (isW.i5 (by assumption)) | exact isR.gx (by assumption) | exact isRd.gx (by assumption) | exact isSp.gx (by assumption) | exact isI.gx (isR.i (by assumption)) | exact isI.gx (isRd.i (by assumption)) | exact isI.gc (isRd.i (by assumption)) | exact isI.gx (isSp.i (by assumption)) | exact isW.gx (isR.w (by assumption)) | exact isW.gF (isR.w (by assumption)) | fail "no such object") rfl rfl (Nat.le_of_ble_eq_true rfl) (cd_failAt _ hD he he0 p) (fun v_20 h_20 q_20 => ?_)
    obtain ⟨rfl, hD_20, S_20⟩ := q_20
    refine r_null (pc := 23) dX2_readStep_23 ?_
    refine r_areturn (pc := 24) _ dX2_readStep_24 rfl (Or.inl ⟨_, rfl⟩) (by first | rfl | exact isRefV_rf _) ?_
    exact ⟨rfl, hD_20, S_20⟩
set_option maxHeartbeats 4000000 in
set_option maxRecDepth 100000 in
theorem cd_readSteps0 {G : mG} {l : Launch} (d : Nat) {h : mH} {a : Nat} {p e : Int} {f : Nat → Int} (hD : isRd h a p e 0 0 f) (hp : InR p) (he : InR e) (he0 : e < 0) {i : Int} : RUNM G l (d + 3) mX2_readSteps [.ref a, .int (J i), .int (J (-1))] h (fun v h' => v = some .null ∧ isRd h' a 0 p 0 0 f ∧ Same (dBlk a) h h') := by
  refine RUNM.of (by decide +kernel) (Nat.le_of_ble_eq_true rfl) ?_
  refine r_aload_n (pc := 0) dX2_readSteps_0 rfl (by first | rfl | exact isRefV_rf _) ?_
  refine r_iload_n (pc := 1) dX2_readSteps_1 rfl ?_
  refine rj_iconst (pc := 2) dX2_readSteps_2 ?_
  refine r_callV2 (pc := 3) dX2_readSteps_3 qX2_readStep kX2_69 vX2_readStep (by first | assumption | exact isI.gx (by assumption) | exact isI.gc (by assumption) | exact isW.gx (by assumption) | exact isW.gF (by assumption) | exact isW.gT (by assumption) (by omega) | exact isW.gS (by assumption) (by omega) | exact isW.gK (by assumption) (by omega) | exact isW.g1 (by assumption) | exact isW.g2 (by assumption) | exact isW.g3 (by assumption) | exact isI.gx (isW.i0 (by assumption)) | exact isI.gc (isW.i0 (by assumption)) | exact isI.gx (isW.i1 (by assumption)) | exact isI.gc (isW.i1 (by assumption)) | exact isI.gx (isW.i2 (by assumption)) | exact isI.gc (isW.i2 (by assumption)) | exact isI.gx (isW.i3 (by assumption)) | exact isI.gc (isW.i3 (by assumption)) | exact isI.gx (isW.i4 (by assumption)) | exact isI.gc (isW.i4 (by assumption)) | exact isI.gx (isW.i5 (by assumption)) | exact isI.gc (isW.i5 (by assumption)) | exact isR.gx (by assumption) | exact isRd.gx (by assumption) | exact isSp.gx (by assumption) | exact isI.gx (isR.i (by assumption)) | exact isI.gx (isRd.i (by assumption)) | exact isI.gc (isRd.i (by assumption)) | exact isI.gx (isSp.i (by assumption)) | exact isW.gx (isR.w (by assumption)) | exact isW.gF (isR.w (by assumption)) | fail "no such object") rfl rfl (Nat.le_of_ble_eq_true rfl) (cd_readStep0 _ hD hp he (by decide) he0) (fun v_3 h_3 q_3 => ?_)
  obtain ⟨rfl, hD_3, S_3⟩ := q_3
  refine r_astore_n (pc := 6) dX2_readSteps_6 (Nat.le_of_ble_eq_true rfl) (by first | rfl | exact isRefV_rf _) ?_
  dsimp only [lsSt, List.set, mLs, mEnt]
  refine r_aload_n (pc := 7) dX2_readSteps_7 rfl (by first | rfl | exact isRefV_rf _) ?_
  refine r_astore (pc := 8) dX2_readSteps_8 (Nat.le_of_ble_eq_true rfl) (by first | rfl | exact isRefV_rf _) ?_
  dsimp only [lsSt, List.set, mLs, mEnt]
  refine rj_iconst (pc := 10) dX2_readSteps_10 ?_
  refine r_istore (pc := 11) dX2_readSteps_11 (Nat.le_of_ble_eq_true rfl) ?_
  dsimp only [lsSt, List.set, mLs, mEnt]
  refine r_iload (pc := 13) dX2_readSteps_13 rfl ?_
  refine rj_bipush (pc := 15) dX2_readSteps_15 (by decide +kernel) ?_
  refine rj_icmp_ge (pc := 17) (tgt := 68) dX2_readSteps_17 (by decide) (by first | exact b01_r | exact bz_r | omega | (constructor <;> omega) | apply_assumption | (apply atF_r; assumption) | fail "no range") (by first | exact b01_r | exact bz_r | omega | (constructor <;> omega) | apply_assumption | (apply atF_r; assumption) | fail "no range") (fun c_17 => ?_) (fun c_17 => ?_)
  · exfalso
    first | omega | exact absurd trivial ‹¬ True›
  · refine r_aload (pc := 20) dX2_readSteps_20 rfl (by first | rfl | exact isRefV_rf _) ?_
    refine r_ifnull (pc := 22) (tgt := 68) dX2_readSteps_22 (by decide) (by first | rfl | exact isRefV_rf _) (fun c_22 => ?_) (fun a_22 c_22 => by cases c_22)
    refine r_aload_n (pc := 68) dX2_readSteps_68 rfl (by first | rfl | exact isRefV_rf _) ?_
    refine r_callV0 (pc := 69) dX2_readSteps_69 qX2_here kX2_34 vX2_here (by first | assumption | exact isI.gx (by assumption) | exact isI.gc (by assumption) | exact isW.gx (by assumption) | exact isW.gF (by assumption) | exact isW.gT (by assumption) (by omega) | exact isW.gS (by assumption) (by omega) | exact isW.gK (by assumption) (by omega) | exact isW.g1 (by assumption) | exact isW.g2 (by assumption) | exact isW.g3 (by assumption) | exact isI.gx (isW.i0 (by assumption)) | exact isI.gc (isW.i0 (by assumption)) | exact isI.gx (isW.i1 (by assumption)) | exact isI.gc (isW.i1 (by assumption)) | exact isI.gx (isW.i2 (by assumption)) | exact isI.gc (isW.i2 (by assumption)) | exact isI.gx (isW.i3 (by assumption)) | exact isI.gc (isW.i3 (by assumption)) | exact isI.gx (isW.i4 (by assumption)) | exact isI.gc (isW.i4 (by assumption)) | exact isI.gx (isW.i5 (by assumption)) | exact isI.gc (isW.i5 (by assumption)) | exact isR.gx (by assumption) | exact isRd.gx (by assumption) | exact isSp.gx (by assumption) | exact isI.gx (isR.i (by assumption)) | exact isI.gx (isRd.i (by assumption)) | exact isI.gc (isRd.i (by assumption)) | exact isI.gx (isSp.i (by assumption)) | exact isW.gx (isR.w (by assumption)) | exact isW.gF (isR.w (by assumption)) | fail "no such object") rfl rfl (Nat.le_of_ble_eq_true rfl) (cd_here0 _ hD_3 (by decide)) (fun v_69 h_69 q_69 => ?_)
    obtain ⟨rfl, rfl⟩ := q_69
    refine r_iload_n (pc := 72) dX2_readSteps_72 rfl ?_
    refine rj_icmp_ne (pc := 73) (tgt := 88) dX2_readSteps_73 (by decide) (by first | exact b01_r | exact bz_r | omega | (constructor <;> omega) | apply_assumption | (apply atF_r; assumption) | fail "no range") (by first | exact b01_r | exact bz_r | omega | (constructor <;> omega) | apply_assumption | (apply atF_r; assumption) | fail "no range") (fun c_73 => ?_) (fun c_73 => ?_)
    · exfalso
      first | omega | exact absurd trivial ‹¬ True›
    · refine r_iload_n (pc := 76) dX2_readSteps_76 rfl ?_
      refine rj_iconst (pc := 77) dX2_readSteps_77 ?_
      refine rj_icmp_ne (pc := 78) (tgt := 96) dX2_readSteps_78 (by decide) (by first | exact b01_r | exact bz_r | omega | (constructor <;> omega) | apply_assumption | (apply atF_r; assumption) | fail "no range") (by first | exact b01_r | exact bz_r | omega | (constructor <;> omega) | apply_assumption | (apply atF_r; assumption) | fail "no range") (fun c_78 => ?_) (fun c_78 => ?_)
      · exfalso
        first | omega | exact absurd trivial ‹¬ True›
      · refine r_aload_n (pc := 81) dX2_readSteps_81 rfl (by first | rfl | exact isRefV_rf _) ?_
        refine r_getf (pc := 82) dX2_readSteps_82 fX2_59 (by first | assumption | exact isI.gx (by assumption) | exact isI.gc (by assumption) | exact isW.gx (by assumption) | exact isW.gF (by assumption) | exact isW.gT (by assumption) (by omega) | exact isW.gS (by assumption) (by omega) | exact isW.gK (by assumption) (by omega) | exact isW.g1 (by assumption) | exact isW.g2 (by assumption) | exact isW.g3 (by assumption) | exact isI.gx (isW.i0 (by assumption)) | exact isI.gc (isW.i0 (by assumption)) | exact isI.gx (isW.i1 (by assumption)) | exact isI.gc (isW.i1 (by assumption)) | exact isI.gx (isW.i2 (by assumption)) | exact isI.gc (isW.i2 (by assumption)) | exact isI.gx (isW.i3 (by assumption)) | exact isI.gc (isW.i3 (by assumption)) | exact isI.gx (isW.i4 (by assumption)) | exact isI.gc (isW.i4 (by assumption)) | exact isI.gx (isW.i5 (by assumption)) | exact isI.gc (isW.i5 (by assumption)) | exact isR.gx (by assumption) | exact isRd.gx (by assumption) | exact isSp.gx (by assumption) | exact isI.gx (isR.i (by assumption)) | exact isI.gx (isRd.i (by assumption)) | exact isI.gc (isRd.i (by assumption)) | exact isI.gx (isSp.i (by assumption)) | exact isW.gx (isR.w (by assumption)) | exact isW.gF (isR.w (by assumption)) | fail "no such object") (by rfl) ?_
        refine rj_if_le (pc := 85) (tgt := 96) dX2_readSteps_85 (by decide) (by first | exact b01_r | exact bz_r | omega | (constructor <;> omega) | apply_assumption | (apply atF_r; assumption) | fail "no range") (fun c_85 => ?_) (fun c_85 => ?_)
        · refine r_aload_n (pc := 96) dX2_readSteps_96 rfl (by first | rfl | exact isRefV_rf _) ?_
          refine r_areturn (pc := 97) _ dX2_readSteps_97 rfl (Or.inl ⟨_, rfl⟩) (by first | rfl | exact isRefV_rf _) ?_
          exact ⟨rfl, hD_3, S_3⟩
        · exfalso
          first | omega | exact absurd trivial ‹¬ True›
set_option maxHeartbeats 4000000 in
set_option maxRecDepth 100000 in
theorem cd_readTask0 {G : mG} {l : Launch} (d : Nat) {h : mH} {a : Nat} {p e o : Int} {f : Nat → Int} (hD : isRd h a p e o 0 f) : RUNM G l (d + 4) mX2_readTask [.ref a] h (fun v h' => v = some .null ∧ isRd h' a 0 0 0 0 f ∧ Same (dBlk a) h h') := by
  refine RUNM.of (by decide +kernel) (Nat.le_of_ble_eq_true rfl) ?_
  refine r_aload_n (pc := 0) dX2_readTask_0 rfl (by first | rfl | exact isRefV_rf _) ?_
  refine r_callV0 (pc := 1) dX2_readTask_1 qX2_begin kX2_20 vX2_begin (by first | assumption | exact isI.gx (by assumption) | exact isI.gc (by assumption) | exact isW.gx (by assumption) | exact isW.gF (by assumption) | exact isW.gT (by assumption) (by omega) | exact isW.gS (by assumption) (by omega) | exact isW.gK (by assumption) (by omega) | exact isW.g1 (by assumption) | exact isW.g2 (by assumption) | exact isW.g3 (by assumption) | exact isI.gx (isW.i0 (by assumption)) | exact isI.gc (isW.i0 (by assumption)) | exact isI.gx (isW.i1 (by assumption)) | exact isI.gc (isW.i1 (by assumption)) | exact isI.gx (isW.i2 (by assumption)) | exact isI.gc (isW.i2 (by assumption)) | exact isI.gx (isW.i3 (by assumption)) | exact isI.gc (isW.i3 (by assumption)) | exact isI.gx (isW.i4 (by assumption)) | exact isI.gc (isW.i4 (by assumption)) | exact isI.gx (isW.i5 (by assumption)) | exact isI.gc (isW.i5 (by assumption)) | exact isR.gx (by assumption) | exact isRd.gx (by assumption) | exact isSp.gx (by assumption) | exact isI.gx (isR.i (by assumption)) | exact isI.gx (isRd.i (by assumption)) | exact isI.gc (isRd.i (by assumption)) | exact isI.gx (isSp.i (by assumption)) | exact isW.gx (isR.w (by assumption)) | exact isW.gF (isR.w (by assumption)) | fail "no such object") rfl rfl (Nat.le_of_ble_eq_true rfl) (cd_begin _ hD) (fun v_1 h_1 q_1 => ?_)
  obtain ⟨rfl, hD_1, S_1⟩ := q_1
  refine r_aload_n (pc := 4) dX2_readTask_4 rfl (by first | rfl | exact isRefV_rf _) ?_
  refine rj_iconst (pc := 5) dX2_readTask_5 ?_
  refine rj_iconst (pc := 6) dX2_readTask_6 ?_
  refine r_callV2 (pc := 7) dX2_readTask_7 qX2_readSteps kX2_41 vX2_readSteps (by first | assumption | exact isI.gx (by assumption) | exact isI.gc (by assumption) | exact isW.gx (by assumption) | exact isW.gF (by assumption) | exact isW.gT (by assumption) (by omega) | exact isW.gS (by assumption) (by omega) | exact isW.gK (by assumption) (by omega) | exact isW.g1 (by assumption) | exact isW.g2 (by assumption) | exact isW.g3 (by assumption) | exact isI.gx (isW.i0 (by assumption)) | exact isI.gc (isW.i0 (by assumption)) | exact isI.gx (isW.i1 (by assumption)) | exact isI.gc (isW.i1 (by assumption)) | exact isI.gx (isW.i2 (by assumption)) | exact isI.gc (isW.i2 (by assumption)) | exact isI.gx (isW.i3 (by assumption)) | exact isI.gc (isW.i3 (by assumption)) | exact isI.gx (isW.i4 (by assumption)) | exact isI.gc (isW.i4 (by assumption)) | exact isI.gx (isW.i5 (by assumption)) | exact isI.gc (isW.i5 (by assumption)) | exact isR.gx (by assumption) | exact isRd.gx (by assumption) | exact isSp.gx (by assumption) | exact isI.gx (isR.i (by assumption)) | exact isI.gx (isRd.i (by assumption)) | exact isI.gc (isRd.i (by assumption)) | exact isI.gx (isSp.i (by assumption)) | exact isW.gx (isR.w (by assumption)) | exact isW.gF (isR.w (by assumption)) | fail "no such object") rfl rfl (Nat.le_of_ble_eq_true rfl) (cd_readSteps0 _ hD_1 (by decide) (by decide) (by decide)) (fun v_7 h_7 q_7 => ?_)
  obtain ⟨rfl, hD_7, S_7⟩ := q_7
  refine r_astore_n (pc := 10) dX2_readTask_10 (Nat.le_of_ble_eq_true rfl) (by first | rfl | exact isRefV_rf _) ?_
  dsimp only [lsSt, List.set, mLs, mEnt]
  refine r_aload_n (pc := 11) dX2_readTask_11 rfl (by first | rfl | exact isRefV_rf _) ?_
  refine r_getf (pc := 12) dX2_readTask_12 fX2_49 (by first | assumption | exact isI.gx (by assumption) | exact isI.gc (by assumption) | exact isW.gx (by assumption) | exact isW.gF (by assumption) | exact isW.gT (by assumption) (by omega) | exact isW.gS (by assumption) (by omega) | exact isW.gK (by assumption) (by omega) | exact isW.g1 (by assumption) | exact isW.g2 (by assumption) | exact isW.g3 (by assumption) | exact isI.gx (isW.i0 (by assumption)) | exact isI.gc (isW.i0 (by assumption)) | exact isI.gx (isW.i1 (by assumption)) | exact isI.gc (isW.i1 (by assumption)) | exact isI.gx (isW.i2 (by assumption)) | exact isI.gc (isW.i2 (by assumption)) | exact isI.gx (isW.i3 (by assumption)) | exact isI.gc (isW.i3 (by assumption)) | exact isI.gx (isW.i4 (by assumption)) | exact isI.gc (isW.i4 (by assumption)) | exact isI.gx (isW.i5 (by assumption)) | exact isI.gc (isW.i5 (by assumption)) | exact isR.gx (by assumption) | exact isRd.gx (by assumption) | exact isSp.gx (by assumption) | exact isI.gx (isR.i (by assumption)) | exact isI.gx (isRd.i (by assumption)) | exact isI.gc (isRd.i (by assumption)) | exact isI.gx (isSp.i (by assumption)) | exact isW.gx (isR.w (by assumption)) | exact isW.gF (isR.w (by assumption)) | fail "no such object") (by rfl) ?_
  refine rj_if_ge (pc := 15) (tgt := 22) dX2_readTask_15 (by decide) (by first | exact b01_r | exact bz_r | omega | (constructor <;> omega) | apply_assumption | (apply atF_r; assumption) | fail "no range") (fun c_15 => ?_) (fun c_15 => ?_)
  · refine r_null (pc := 22) dX2_readTask_22 ?_
    refine r_areturn (pc := 23) _ dX2_readTask_23 rfl (Or.inl ⟨_, rfl⟩) (by first | rfl | exact isRefV_rf _) ?_
    exact ⟨rfl, hD_7, S_1.trans S_7⟩
  · exfalso
    first | omega | exact absurd trivial ‹¬ True›
set_option maxHeartbeats 4000000 in
set_option maxRecDepth 100000 in
theorem cd_readWholeName0 {G : mG} {l : Launch} (d : Nat) {h : mH} {a : Nat} {p e o : Int} {f : Nat → Int} (hD : isRd h a p e o 0 f) : RUNM G l (d + 2) mX2_readWholeName [.ref a] h (fun v h' => (∃ n, v = some (.long n)) ∧ isRd h' a 0 0 0 0 f ∧ Same (dBlk a) h h') := by
  refine RUNM.of (by decide +kernel) (Nat.le_of_ble_eq_true rfl) ?_
  refine r_aload_n (pc := 0) dX2_readWholeName_0 rfl (by first | rfl | exact isRefV_rf _) ?_
  refine r_callV0 (pc := 1) dX2_readWholeName_1 qX2_begin kX2_20 vX2_begin (by first | assumption | exact isI.gx (by assumption) | exact isI.gc (by assumption) | exact isW.gx (by assumption) | exact isW.gF (by assumption) | exact isW.gT (by assumption) (by omega) | exact isW.gS (by assumption) (by omega) | exact isW.gK (by assumption) (by omega) | exact isW.g1 (by assumption) | exact isW.g2 (by assumption) | exact isW.g3 (by assumption) | exact isI.gx (isW.i0 (by assumption)) | exact isI.gc (isW.i0 (by assumption)) | exact isI.gx (isW.i1 (by assumption)) | exact isI.gc (isW.i1 (by assumption)) | exact isI.gx (isW.i2 (by assumption)) | exact isI.gc (isW.i2 (by assumption)) | exact isI.gx (isW.i3 (by assumption)) | exact isI.gc (isW.i3 (by assumption)) | exact isI.gx (isW.i4 (by assumption)) | exact isI.gc (isW.i4 (by assumption)) | exact isI.gx (isW.i5 (by assumption)) | exact isI.gc (isW.i5 (by assumption)) | exact isR.gx (by assumption) | exact isRd.gx (by assumption) | exact isSp.gx (by assumption) | exact isI.gx (isR.i (by assumption)) | exact isI.gx (isRd.i (by assumption)) | exact isI.gc (isRd.i (by assumption)) | exact isI.gx (isSp.i (by assumption)) | exact isW.gx (isR.w (by assumption)) | exact isW.gF (isR.w (by assumption)) | fail "no such object") rfl rfl (Nat.le_of_ble_eq_true rfl) (cd_begin _ hD) (fun v_1 h_1 q_1 => ?_)
  obtain ⟨rfl, hD_1, S_1⟩ := q_1
  refine r_aload_n (pc := 4) dX2_readWholeName_4 rfl (by first | rfl | exact isRefV_rf _) ?_
  refine r_callV0 (pc := 5) dX2_readWholeName_5 qX2_readName kX2_26 vX2_readName (by first | assumption | exact isI.gx (by assumption) | exact isI.gc (by assumption) | exact isW.gx (by assumption) | exact isW.gF (by assumption) | exact isW.gT (by assumption) (by omega) | exact isW.gS (by assumption) (by omega) | exact isW.gK (by assumption) (by omega) | exact isW.g1 (by assumption) | exact isW.g2 (by assumption) | exact isW.g3 (by assumption) | exact isI.gx (isW.i0 (by assumption)) | exact isI.gc (isW.i0 (by assumption)) | exact isI.gx (isW.i1 (by assumption)) | exact isI.gc (isW.i1 (by assumption)) | exact isI.gx (isW.i2 (by assumption)) | exact isI.gc (isW.i2 (by assumption)) | exact isI.gx (isW.i3 (by assumption)) | exact isI.gc (isW.i3 (by assumption)) | exact isI.gx (isW.i4 (by assumption)) | exact isI.gc (isW.i4 (by assumption)) | exact isI.gx (isW.i5 (by assumption)) | exact isI.gc (isW.i5 (by assumption)) | exact isR.gx (by assumption) | exact isRd.gx (by assumption) | exact isSp.gx (by assumption) | exact isI.gx (isR.i (by assumption)) | exact isI.gx (isRd.i (by assumption)) | exact isI.gc (isRd.i (by assumption)) | exact isI.gx (isSp.i (by assumption)) | exact isW.gx (isR.w (by assumption)) | exact isW.gF (isR.w (by assumption)) | fail "no such object") rfl rfl (Nat.le_of_ble_eq_true rfl) (cd_readName0 _ hD_1 (by decide) (by decide) (by decide) (by decide)) (fun v_5 h_5 q_5 => ?_)
  obtain ⟨⟨n_5, rfl⟩, hD_5, S_5⟩ := q_5
  refine r_lstore_n (pc := 8) dX2_readWholeName_8 (Nat.le_of_ble_eq_true rfl) ?_
  dsimp only [lsSt, lsSt2, List.set, mLs, mEnt]
  refine r_aload_n (pc := 9) dX2_readWholeName_9 rfl (by first | rfl | exact isRefV_rf _) ?_
  refine r_callV0 (pc := 10) dX2_readWholeName_10 qX2_here kX2_34 vX2_here (by first | assumption | exact isI.gx (by assumption) | exact isI.gc (by assumption) | exact isW.gx (by assumption) | exact isW.gF (by assumption) | exact isW.gT (by assumption) (by omega) | exact isW.gS (by assumption) (by omega) | exact isW.gK (by assumption) (by omega) | exact isW.g1 (by assumption) | exact isW.g2 (by assumption) | exact isW.g3 (by assumption) | exact isI.gx (isW.i0 (by assumption)) | exact isI.gc (isW.i0 (by assumption)) | exact isI.gx (isW.i1 (by assumption)) | exact isI.gc (isW.i1 (by assumption)) | exact isI.gx (isW.i2 (by assumption)) | exact isI.gc (isW.i2 (by assumption)) | exact isI.gx (isW.i3 (by assumption)) | exact isI.gc (isW.i3 (by assumption)) | exact isI.gx (isW.i4 (by assumption)) | exact isI.gc (isW.i4 (by assumption)) | exact isI.gx (isW.i5 (by assumption)) | exact isI.gc (isW.i5 (by assumption)) | exact isR.gx (by assumption) | exact isRd.gx (by assumption) | exact isSp.gx (by assumption) | exact isI.gx (isR.i (by assumption)) | exact isI.gx (isRd.i (by assumption)) | exact isI.gc (isRd.i (by assumption)) | exact isI.gx (isSp.i (by assumption)) | exact isW.gx (isR.w (by assumption)) | exact isW.gF (isR.w (by assumption)) | fail "no such object") rfl rfl (Nat.le_of_ble_eq_true rfl) (cd_here0 _ hD_5 (by decide)) (fun v_10 h_10 q_10 => ?_)
  obtain ⟨rfl, rfl⟩ := q_10
  refine rj_iconst (pc := 13) dX2_readWholeName_13 ?_
  refine rj_icmp_eq (pc := 14) (tgt := 25) dX2_readWholeName_14 (by decide) (by first | exact b01_r | exact bz_r | omega | (constructor <;> omega) | apply_assumption | (apply atF_r; assumption) | fail "no range") (by first | exact b01_r | exact bz_r | omega | (constructor <;> omega) | apply_assumption | (apply atF_r; assumption) | fail "no range") (fun c_14 => ?_) (fun c_14 => ?_)
  · refine r_lload_n (pc := 25) dX2_readWholeName_25 rfl ?_
    refine r_lreturn (pc := 26) dX2_readWholeName_26 rfl ?_
    exact ⟨⟨_, rfl⟩, hD_5, S_1.trans S_5⟩
  · exfalso
    first | omega | exact absurd trivial ‹¬ True›
theorem Same.of_new {h : mH} {n : Nat} {o : mO} {b : Nat} (hb : b < h.2.1) : hGet (hNew h n o) b = hGet h b := hGet_new_ne (by omega) rfl
set_option maxHeartbeats 4000000 in
set_option maxRecDepth 100000 in
theorem k_X6 {G : mG} {l : Launch} (d : Nat) {h : mH} {a : Nat} {i : Int} (hx : hGet h a = some (.inl (6, [.int 0, .int 0, .int 0, .long 0, .null, .null]))) (hlo : h.1 ≤ a) : RUNM G l (d + 1) mX6_init [.ref a, .int (J i)] h (fun v h' => v = none ∧ hGet h' a = some (.inl (6, [.int (J i), .int 0, .int 0, .long 0, .null, .null])) ∧ Same (fun b => b = a) h h') := by
  refine RUNM.of (by decide +kernel) (Nat.le_of_ble_eq_true rfl) ?_
  refine r_aload_n (pc := 0) dX6_init_0 rfl (by first | rfl | exact isRefV_rf _) ?_
  refine r_objInit (pc := 1) dX6_init_1 kX6_1 (Nat.le_of_ble_eq_true rfl) ?_
  refine r_aload_n (pc := 4) dX6_init_4 rfl (by first | rfl | exact isRefV_rf _) ?_
  refine r_iload_n (pc := 5) dX6_init_5 rfl ?_
  refine r_putF (pc := 6) dX6_init_6 fX6_7 ⟨_, rfl, rfl⟩ rfl hx hlo rfl rfl (Nat.le_of_ble_eq_true rfl) ?_
  dsimp only [List.set]
  refine r_return (pc := 9) dX6_init_9 rfl ?_
  exact ⟨rfl, hGet_put_self, Same.refl.put rfl⟩
set_option maxHeartbeats 4000000 in
set_option maxRecDepth 100000 in
theorem cd_readThing0 {G : mG} {l : Launch} (d : Nat) {h : mH} {a : Nat} {p e o : Int} {f : Nat → Int} (hD : isRd h a p e o 0 f) (ha : a + 3 ≤ h.2.1) : RUNM G l (d + 2) mX2_readThing [.ref a] h (fun v h' => v = some .null ∧ isRd h' a 0 0 0 0 f ∧ (∀ b, b < h.2.1 → ¬ dBlk a b → hGet h' b = hGet h b) ∧ h'.1 = h.1 ∧ h'.2.1 = h.2.1 + 1 ∧ h'.2.2.1 = h.2.2.1 + 6) := by
  refine RUNM.of (by decide +kernel) (Nat.le_of_ble_eq_true rfl) ?_
  refine r_aload_n (pc := 0) dX2_readThing_0 rfl (by first | rfl | exact isRefV_rf _) ?_
  refine r_callV0 (pc := 1) dX2_readThing_1 qX2_begin kX2_20 vX2_begin (by first | assumption | exact isI.gx (by assumption) | exact isI.gc (by assumption) | exact isW.gx (by assumption) | exact isW.gF (by assumption) | exact isW.gT (by assumption) (by omega) | exact isW.gS (by assumption) (by omega) | exact isW.gK (by assumption) (by omega) | exact isW.g1 (by assumption) | exact isW.g2 (by assumption) | exact isW.g3 (by assumption) | exact isI.gx (isW.i0 (by assumption)) | exact isI.gc (isW.i0 (by assumption)) | exact isI.gx (isW.i1 (by assumption)) | exact isI.gc (isW.i1 (by assumption)) | exact isI.gx (isW.i2 (by assumption)) | exact isI.gc (isW.i2 (by assumption)) | exact isI.gx (isW.i3 (by assumption)) | exact isI.gc (isW.i3 (by assumption)) | exact isI.gx (isW.i4 (by assumption)) | exact isI.gc (isW.i4 (by assumption)) | exact isI.gx (isW.i5 (by assumption)) | exact isI.gc (isW.i5 (by assumption)) | exact isR.gx (by assumption) | exact isRd.gx (by assumption) | exact isSp.gx (by assumption) | exact isI.gx (isR.i (by assumption)) | exact isI.gx (isRd.i (by assumption)) | exact isI.gc (isRd.i (by assumption)) | exact isI.gx (isSp.i (by assumption)) | exact isW.gx (isR.w (by assumption)) | exact isW.gF (isR.w (by assumption)) | fail "no such object") rfl rfl (Nat.le_of_ble_eq_true rfl) (cd_begin _ hD) (fun v_1 h_1 q_1 => ?_)
  obtain ⟨rfl, hD_1, S_1⟩ := q_1
  refine rg_newC (pc := 4) (z := h.2.1) dX2_readThing_4 cX2_23 S_1.2.1 (fun h_4 o_4 s_4 l_4 n_4 k_4 => ?_)
  have ll := hD.lo
  have e1 := S_1.1
  have e2 := S_1.2.1
  have e3 := S_1.2.2.1
  have hD_4 := hD_1.keep2 (h' := h_4) l_4 (fun b hb => s_4 b (by unfold dBlk at hb; omega))
  refine r_dup (pc := 7) dX2_readThing_7 (by first | rfl | (cases ‹Option Nat› <;> rfl)) ?_
  refine rj_bipush (pc := 8) dX2_readThing_8 (by decide +kernel) ?_
  refine r_callI1 (pc := 10) dX2_readThing_10 qX6_init rfl kX2_25 rfl iX6_init (Nat.le_of_ble_eq_true rfl) (k_X6 _ o_4 (by omega)) (fun v_10 h_10 q_10 => ?_)
  obtain ⟨rfl, o_10, S_10⟩ := q_10
  have hD_10 := hD_4.keep2 S_10.1 (fun b hb => S_10.2.2.2 b (by unfold dBlk at hb; omega))
  have f1 := S_10.1
  have f2 := S_10.2.1
  have f3 := S_10.2.2.1
  refine r_astore_n (pc := 13) dX2_readThing_13 (Nat.le_of_ble_eq_true rfl) (by first | rfl | exact isRefV_rf _) ?_
  dsimp only [lsSt, List.set, mLs, mEnt]
  refine r_aload_n (pc := 14) dX2_readThing_14 rfl (by first | rfl | exact isRefV_rf _) ?_
  refine r_aload_n (pc := 15) dX2_readThing_15 rfl (by first | rfl | exact isRefV_rf _) ?_
  refine r_callV0 (pc := 16) dX2_readThing_16 qX2_readName kX2_26 vX2_readName (by first | assumption | exact isI.gx (by assumption) | exact isI.gc (by assumption) | exact isW.gx (by assumption) | exact isW.gF (by assumption) | exact isW.gT (by assumption) (by omega) | exact isW.gS (by assumption) (by omega) | exact isW.gK (by assumption) (by omega) | exact isW.g1 (by assumption) | exact isW.g2 (by assumption) | exact isW.g3 (by assumption) | exact isI.gx (isW.i0 (by assumption)) | exact isI.gc (isW.i0 (by assumption)) | exact isI.gx (isW.i1 (by assumption)) | exact isI.gc (isW.i1 (by assumption)) | exact isI.gx (isW.i2 (by assumption)) | exact isI.gc (isW.i2 (by assumption)) | exact isI.gx (isW.i3 (by assumption)) | exact isI.gc (isW.i3 (by assumption)) | exact isI.gx (isW.i4 (by assumption)) | exact isI.gc (isW.i4 (by assumption)) | exact isI.gx (isW.i5 (by assumption)) | exact isI.gc (isW.i5 (by assumption)) | exact isR.gx (by assumption) | exact isRd.gx (by assumption) | exact isSp.gx (by assumption) | exact isI.gx (isR.i (by assumption)) | exact isI.gx (isRd.i (by assumption)) | exact isI.gc (isRd.i (by assumption)) | exact isI.gx (isSp.i (by assumption)) | exact isW.gx (isR.w (by assumption)) | exact isW.gF (isR.w (by assumption)) | fail "no such object") rfl rfl (Nat.le_of_ble_eq_true rfl) (cd_readName0 _ hD_10 (by decide) (by decide) (by decide) (by decide)) (fun v_16 h_16 q_16 => ?_)
  obtain ⟨⟨n_16, rfl⟩, hD_16, S_16⟩ := q_16
  have o_16 := (S_16.2.2.2 h.2.1 (fun q => by unfold dBlk at q; omega)).trans o_10
  have g1 := S_16.1
  have g2 := S_16.2.1
  have g3 := S_16.2.2.1
  refine r_putf (pc := 19) dX2_readThing_19 fX2_30 o_16 (by omega) rfl rfl (Nat.le_of_ble_eq_true rfl) ?_
  refine rg_gen (fun h_19 o_19 s_19 l_19 n_19 k_19 => ?_)
  have hD_19 := hD_16.keep2 l_19 (fun b hb => s_19 b (by unfold dBlk at hb; omega))
  refine r_aload_n (pc := 22) dX2_readThing_22 rfl (by first | rfl | exact isRefV_rf _) ?_
  refine r_callV0 (pc := 23) dX2_readThing_23 qX2_here kX2_34 vX2_here (by first | assumption | exact isI.gx (by assumption) | exact isI.gc (by assumption) | exact isW.gx (by assumption) | exact isW.gF (by assumption) | exact isW.gT (by assumption) (by omega) | exact isW.gS (by assumption) (by omega) | exact isW.gK (by assumption) (by omega) | exact isW.g1 (by assumption) | exact isW.g2 (by assumption) | exact isW.g3 (by assumption) | exact isI.gx (isW.i0 (by assumption)) | exact isI.gc (isW.i0 (by assumption)) | exact isI.gx (isW.i1 (by assumption)) | exact isI.gc (isW.i1 (by assumption)) | exact isI.gx (isW.i2 (by assumption)) | exact isI.gc (isW.i2 (by assumption)) | exact isI.gx (isW.i3 (by assumption)) | exact isI.gc (isW.i3 (by assumption)) | exact isI.gx (isW.i4 (by assumption)) | exact isI.gc (isW.i4 (by assumption)) | exact isI.gx (isW.i5 (by assumption)) | exact isI.gc (isW.i5 (by assumption)) | exact isR.gx (by assumption) | exact isRd.gx (by assumption) | exact isSp.gx (by assumption) | exact isI.gx (isR.i (by assumption)) | exact isI.gx (isRd.i (by assumption)) | exact isI.gc (isRd.i (by assumption)) | exact isI.gx (isSp.i (by assumption)) | exact isW.gx (isR.w (by assumption)) | exact isW.gF (isR.w (by assumption)) | fail "no such object") rfl rfl (Nat.le_of_ble_eq_true rfl) (cd_here0 _ hD_19 (by decide)) (fun v_23 h_23 q_23 => ?_)
  obtain ⟨rfl, rfl⟩ := q_23
  refine rj_iconst (pc := 26) dX2_readThing_26 ?_
  refine rj_icmp_eq (pc := 27) (tgt := 46) dX2_readThing_27 (by decide) (by first | exact b01_r | exact bz_r | omega | (constructor <;> omega) | apply_assumption | (apply atF_r; assumption) | fail "no range") (by first | exact b01_r | exact bz_r | omega | (constructor <;> omega) | apply_assumption | (apply atF_r; assumption) | fail "no range") (fun c_27 => ?_) (fun c_27 => ?_)
  · refine r_aload_n (pc := 46) dX2_readThing_46 rfl (by first | rfl | exact isRefV_rf _) ?_
    refine r_getf (pc := 47) dX2_readThing_47 fX2_49 (by first | assumption | exact isI.gx (by assumption) | exact isI.gc (by assumption) | exact isW.gx (by assumption) | exact isW.gF (by assumption) | exact isW.gT (by assumption) (by omega) | exact isW.gS (by assumption) (by omega) | exact isW.gK (by assumption) (by omega) | exact isW.g1 (by assumption) | exact isW.g2 (by assumption) | exact isW.g3 (by assumption) | exact isI.gx (isW.i0 (by assumption)) | exact isI.gc (isW.i0 (by assumption)) | exact isI.gx (isW.i1 (by assumption)) | exact isI.gc (isW.i1 (by assumption)) | exact isI.gx (isW.i2 (by assumption)) | exact isI.gc (isW.i2 (by assumption)) | exact isI.gx (isW.i3 (by assumption)) | exact isI.gc (isW.i3 (by assumption)) | exact isI.gx (isW.i4 (by assumption)) | exact isI.gc (isW.i4 (by assumption)) | exact isI.gx (isW.i5 (by assumption)) | exact isI.gc (isW.i5 (by assumption)) | exact isR.gx (by assumption) | exact isRd.gx (by assumption) | exact isSp.gx (by assumption) | exact isI.gx (isR.i (by assumption)) | exact isI.gx (isRd.i (by assumption)) | exact isI.gc (isRd.i (by assumption)) | exact isI.gx (isSp.i (by assumption)) | exact isW.gx (isR.w (by assumption)) | exact isW.gF (isR.w (by assumption)) | fail "no such object") (by rfl) ?_
    refine rj_if_ge (pc := 50) (tgt := 57) dX2_readThing_50 (by decide) (by first | exact b01_r | exact bz_r | omega | (constructor <;> omega) | apply_assumption | (apply atF_r; assumption) | fail "no range") (fun c_50 => ?_) (fun c_50 => ?_)
    · refine r_null (pc := 57) dX2_readThing_57 ?_
      refine r_areturn (pc := 58) _ dX2_readThing_58 rfl (Or.inl ⟨_, rfl⟩) (by first | rfl | exact isRefV_rf _) ?_
      exact ⟨rfl, hD_19, fun b hb hn => (s_19 b (by omega)).trans ((S_16.2.2.2 b hn).trans ((S_10.2.2.2 b (by omega)).trans ((s_4 b (by omega)).trans (S_1.2.2.2 b hn)))), by omega, by omega, by omega⟩
    · exfalso
      first | omega | exact absurd trivial ‹¬ True›
  · exfalso
    first | omega | exact absurd trivial ‹¬ True›
end mg_57
section mg_58
/-! ===== the class: its runner with nothing to do ===== -/
theorem nar_i (a : Int32) : narrow .int (.int a) = .int a := rfl
set_option maxHeartbeats 4000000 in
set_option maxRecDepth 100000 in
theorem cr_leave {G : mG} {l : Launch} (d : Nat) {h : mH} {r : Nat} {b z : Int} {f : Nat → Int} {c : Nat → Int} {C : Nat → Nat → Int} {nm : Nat → Int64} {g : Nat → Option Nat} (hR : isR h r b z f c C nm g) (hc : ∀ q, InR (c q)) (hz : InR z) (hz0 : 0 < z) : RUNM G l (d) mX3_leave [.ref r] h (fun v h' => v = none ∧ isR h' r b (z - 1) f c C nm g ∧ Same (rBlk r) h h') := by
  refine RUNM.of (by decide +kernel) (Nat.le_of_ble_eq_true rfl) ?_
  refine r_aload_n (pc := 0) dX3_leave_0 rfl (by first | rfl | exact isRefV_rf _) ?_
  refine r_getf (pc := 1) dX3_leave_1 fX3_23 (by first | assumption | exact isI.gx (by assumption) | exact isI.gc (by assumption) | exact isW.gx (by assumption) | exact isW.gF (by assumption) | exact isW.gT (by assumption) (by omega) | exact isW.gS (by assumption) (by omega) | exact isW.gK (by assumption) (by omega) | exact isW.g1 (by assumption) | exact isW.g2 (by assumption) | exact isW.g3 (by assumption) | exact isI.gx (isW.i0 (by assumption)) | exact isI.gc (isW.i0 (by assumption)) | exact isI.gx (isW.i1 (by assumption)) | exact isI.gc (isW.i1 (by assumption)) | exact isI.gx (isW.i2 (by assumption)) | exact isI.gc (isW.i2 (by assumption)) | exact isI.gx (isW.i3 (by assumption)) | exact isI.gc (isW.i3 (by assumption)) | exact isI.gx (isW.i4 (by assumption)) | exact isI.gc (isW.i4 (by assumption)) | exact isI.gx (isW.i5 (by assumption)) | exact isI.gc (isW.i5 (by assumption)) | exact isR.gx (by assumption) | exact isRd.gx (by assumption) | exact isSp.gx (by assumption) | exact isI.gx (isR.i (by assumption)) | exact isI.gx (isRd.i (by assumption)) | exact isI.gc (isRd.i (by assumption)) | exact isI.gx (isSp.i (by assumption)) | exact isW.gx (isR.w (by assumption)) | exact isW.gF (isR.w (by assumption)) | fail "no such object") (by rfl) ?_
  refine r_getf (pc := 4) dX3_leave_4 fX3_88 (by first | assumption | exact isI.gx (by assumption) | exact isI.gc (by assumption) | exact isW.gx (by assumption) | exact isW.gF (by assumption) | exact isW.gT (by assumption) (by omega) | exact isW.gS (by assumption) (by omega) | exact isW.gK (by assumption) (by omega) | exact isW.g1 (by assumption) | exact isW.g2 (by assumption) | exact isW.g3 (by assumption) | exact isI.gx (isW.i0 (by assumption)) | exact isI.gc (isW.i0 (by assumption)) | exact isI.gx (isW.i1 (by assumption)) | exact isI.gc (isW.i1 (by assumption)) | exact isI.gx (isW.i2 (by assumption)) | exact isI.gc (isW.i2 (by assumption)) | exact isI.gx (isW.i3 (by assumption)) | exact isI.gc (isW.i3 (by assumption)) | exact isI.gx (isW.i4 (by assumption)) | exact isI.gc (isW.i4 (by assumption)) | exact isI.gx (isW.i5 (by assumption)) | exact isI.gc (isW.i5 (by assumption)) | exact isR.gx (by assumption) | exact isRd.gx (by assumption) | exact isSp.gx (by assumption) | exact isI.gx (isR.i (by assumption)) | exact isI.gx (isRd.i (by assumption)) | exact isI.gc (isRd.i (by assumption)) | exact isI.gx (isSp.i (by assumption)) | exact isW.gx (isR.w (by assumption)) | exact isW.gF (isR.w (by assumption)) | fail "no such object") (by rfl) ?_
  refine rj_if_le (pc := 7) (tgt := 23) dX3_leave_7 (by decide) (by first | exact b01_r | exact bz_r | omega | (constructor <;> omega) | apply_assumption | (apply atF_r; assumption) | fail "no range") (fun c_7 => ?_) (fun c_7 => ?_)
  · exfalso
    first | omega | exact absurd trivial ‹¬ True›
  · refine r_aload_n (pc := 10) dX3_leave_10 rfl (by first | rfl | exact isRefV_rf _) ?_
    refine r_getf (pc := 11) dX3_leave_11 fX3_23 (by first | assumption | exact isI.gx (by assumption) | exact isI.gc (by assumption) | exact isW.gx (by assumption) | exact isW.gF (by assumption) | exact isW.gT (by assumption) (by omega) | exact isW.gS (by assumption) (by omega) | exact isW.gK (by assumption) (by omega) | exact isW.g1 (by assumption) | exact isW.g2 (by assumption) | exact isW.g3 (by assumption) | exact isI.gx (isW.i0 (by assumption)) | exact isI.gc (isW.i0 (by assumption)) | exact isI.gx (isW.i1 (by assumption)) | exact isI.gc (isW.i1 (by assumption)) | exact isI.gx (isW.i2 (by assumption)) | exact isI.gc (isW.i2 (by assumption)) | exact isI.gx (isW.i3 (by assumption)) | exact isI.gc (isW.i3 (by assumption)) | exact isI.gx (isW.i4 (by assumption)) | exact isI.gc (isW.i4 (by assumption)) | exact isI.gx (isW.i5 (by assumption)) | exact isI.gc (isW.i5 (by assumption)) | exact isR.gx (by assumption) | exact isRd.gx (by assumption) | exact isSp.gx (by assumption) | exact isI.gx (isR.i (by assumption)) | exact isI.gx (isRd.i (by assumption)) | exact isI.gc (isRd.i (by assumption)) | exact isI.gx (isSp.i (by assumption)) | exact isW.gx (isR.w (by assumption)) | exact isW.gF (isR.w (by assumption)) | fail "no such object") (by rfl) ?_
    refine r_dup (pc := 14) dX3_leave_14 (by first | rfl | (cases ‹Option Nat› <;> rfl)) ?_
    refine r_getf (pc := 15) dX3_leave_15 fX3_88 (by first | assumption | exact isI.gx (by assumption) | exact isI.gc (by assumption) | exact isW.gx (by assumption) | exact isW.gF (by assumption) | exact isW.gT (by assumption) (by omega) | exact isW.gS (by assumption) (by omega) | exact isW.gK (by assumption) (by omega) | exact isW.g1 (by assumption) | exact isW.g2 (by assumption) | exact isW.g3 (by assumption) | exact isI.gx (isW.i0 (by assumption)) | exact isI.gc (isW.i0 (by assumption)) | exact isI.gx (isW.i1 (by assumption)) | exact isI.gc (isW.i1 (by assumption)) | exact isI.gx (isW.i2 (by assumption)) | exact isI.gc (isW.i2 (by assumption)) | exact isI.gx (isW.i3 (by assumption)) | exact isI.gc (isW.i3 (by assumption)) | exact isI.gx (isW.i4 (by assumption)) | exact isI.gc (isW.i4 (by assumption)) | exact isI.gx (isW.i5 (by assumption)) | exact isI.gc (isW.i5 (by assumption)) | exact isR.gx (by assumption) | exact isRd.gx (by assumption) | exact isSp.gx (by assumption) | exact isI.gx (isR.i (by assumption)) | exact isI.gx (isRd.i (by assumption)) | exact isI.gc (isRd.i (by assumption)) | exact isI.gx (isSp.i (by assumption)) | exact isW.gx (isR.w (by assumption)) | exact isW.gF (isR.w (by assumption)) | fail "no such object") (by rfl) ?_
    refine rj_iconst (pc := 18) dX3_leave_18 ?_
    refine rj_isub (pc := 19) dX3_leave_19 ?_
    refine rc_putz (pc := 20) dX3_leave_20 fX3_88 (by first | assumption | exact isW.i0 (by assumption) | exact isW.i1 (by assumption) | exact isW.i2 (by assumption) | exact isW.i3 (by assumption) | exact isW.i4 (by assumption) | exact isW.i5 (by assumption) | exact isR.i (by assumption) | exact isRd.i (by assumption) | exact isSp.i (by assumption) | fail "no such row") (fun h_20 hI_20 hS_20 => ?_)
    refine r_return (pc := 23) dX3_leave_23 rfl ?_
    exact ⟨rfl, hR.ofI hS_20 hI_20, hS_20.mono (fun q hq => i_rBlk hq)⟩
set_option maxHeartbeats 4000000 in
set_option maxRecDepth 100000 in
theorem cr_beginToEndS {G : mG} {l : Launch} (d : Nat) {h : mH} {r : Nat} {b z : Int} {f : Nat → Int} {c : Nat → Int} {C : Nat → Nat → Int} {nm : Nat → Int64} {g : Nat → Option Nat} (hR : isR h r b z f c C nm g) (hc : ∀ q, InR (c q)) (hz : InR z) (hz0 : 0 ≤ z ∧ z < 160) {i : Int} (hi0 : 100 ≤ i) (hi : inW c 1 60 (i - 100)) : RUNM G l (d + 2) mX3_beginToEnd [.ref r, .int (J i)] h (fun v h' => v = none ∧ isR h' r b (z + 1) (updI f z.toNat i) (updI c (304 + 3 * (i - 100).toNat) 2) C nm g ∧ Same (rBlk r) h h') := by
  refine RUNM.of (by decide +kernel) (Nat.le_of_ble_eq_true rfl) ?_
  have r1 := hc 1
  have hW := hR.w
  refine r_iload_n (pc := 0) dX3_beginToEnd_0 rfl ?_
  refine rj_bipush (pc := 1) dX3_beginToEnd_1 (by decide +kernel) ?_
  refine rj_icmp_lt (pc := 3) (tgt := 30) dX3_beginToEnd_3 (by decide) (by first | exact b01_r | exact bz_r | omega | (constructor <;> omega) | apply_assumption | (apply atF_r; assumption) | fail "no range") (by first | exact b01_r | exact bz_r | omega | (constructor <;> omega) | apply_assumption | (apply atF_r; assumption) | fail "no range") (fun c_3 => ?_) (fun c_3 => ?_)
  · exfalso
    first | omega | exact absurd trivial ‹¬ True›
  · refine r_aload_n (pc := 6) dX3_beginToEnd_6 rfl (by first | rfl | exact isRefV_rf _) ?_
    refine r_getf (pc := 7) dX3_beginToEnd_7 fX3_12 (by first | assumption | exact isI.gx (by assumption) | exact isI.gc (by assumption) | exact isW.gx (by assumption) | exact isW.gF (by assumption) | exact isW.gT (by assumption) (by omega) | exact isW.gS (by assumption) (by omega) | exact isW.gK (by assumption) (by omega) | exact isW.g1 (by assumption) | exact isW.g2 (by assumption) | exact isW.g3 (by assumption) | exact isI.gx (isW.i0 (by assumption)) | exact isI.gc (isW.i0 (by assumption)) | exact isI.gx (isW.i1 (by assumption)) | exact isI.gc (isW.i1 (by assumption)) | exact isI.gx (isW.i2 (by assumption)) | exact isI.gc (isW.i2 (by assumption)) | exact isI.gx (isW.i3 (by assumption)) | exact isI.gc (isW.i3 (by assumption)) | exact isI.gx (isW.i4 (by assumption)) | exact isI.gc (isW.i4 (by assumption)) | exact isI.gx (isW.i5 (by assumption)) | exact isI.gc (isW.i5 (by assumption)) | exact isR.gx (by assumption) | exact isRd.gx (by assumption) | exact isSp.gx (by assumption) | exact isI.gx (isR.i (by assumption)) | exact isI.gx (isRd.i (by assumption)) | exact isI.gc (isRd.i (by assumption)) | exact isI.gx (isSp.i (by assumption)) | exact isW.gx (isR.w (by assumption)) | exact isW.gF (isR.w (by assumption)) | fail "no such object") (by rfl) ?_
    refine r_iload_n (pc := 10) dX3_beginToEnd_10 rfl ?_
    refine rj_bipush (pc := 11) dX3_beginToEnd_11 (by decide +kernel) ?_
    refine rj_isub (pc := 13) dX3_beginToEnd_13 ?_
    refine r_callV1 (pc := 14) dX3_beginToEnd_14 qX9_scopeAt kX3_103 vX9_scopeAt (by first | assumption | exact isI.gx (by assumption) | exact isI.gc (by assumption) | exact isW.gx (by assumption) | exact isW.gF (by assumption) | exact isW.gT (by assumption) (by omega) | exact isW.gS (by assumption) (by omega) | exact isW.gK (by assumption) (by omega) | exact isW.g1 (by assumption) | exact isW.g2 (by assumption) | exact isW.g3 (by assumption) | exact isI.gx (isW.i0 (by assumption)) | exact isI.gc (isW.i0 (by assumption)) | exact isI.gx (isW.i1 (by assumption)) | exact isI.gc (isW.i1 (by assumption)) | exact isI.gx (isW.i2 (by assumption)) | exact isI.gc (isW.i2 (by assumption)) | exact isI.gx (isW.i3 (by assumption)) | exact isI.gc (isW.i3 (by assumption)) | exact isI.gx (isW.i4 (by assumption)) | exact isI.gc (isW.i4 (by assumption)) | exact isI.gx (isW.i5 (by assumption)) | exact isI.gc (isW.i5 (by assumption)) | exact isR.gx (by assumption) | exact isRd.gx (by assumption) | exact isSp.gx (by assumption) | exact isI.gx (isR.i (by assumption)) | exact isI.gx (isRd.i (by assumption)) | exact isI.gc (isRd.i (by assumption)) | exact isI.gx (isSp.i (by assumption)) | exact isW.gx (isR.w (by assumption)) | exact isW.gF (isR.w (by assumption)) | fail "no such object") rfl rfl (Nat.le_of_ble_eq_true rfl) (cw_scopeAt _ hR.w hc ⟨by omega, by omega⟩) (fun v_14 h_14 q_14 => ?_)
    obtain ⟨q1_14, rfl⟩ := q_14
    · obtain rfl := scAt_P (by omega) q1_14
      refine r_astore_n (pc := 17) dX3_beginToEnd_17 (Nat.le_of_ble_eq_true rfl) (by first | rfl | exact isRefV_rf _) ?_
      dsimp only [lsSt, List.set, mLs, mEnt]
      refine r_aload_n (pc := 18) dX3_beginToEnd_18 rfl (by first | rfl | exact isRefV_rf _) ?_
      refine r_ifnull (pc := 19) (tgt := 27) dX3_beginToEnd_19 (by decide) (by first | rfl | exact isRefV_rf _) (fun c_19 => by cases c_19) (fun a_19 c_19 => ?_)
      refine r_aload_n (pc := 22) dX3_beginToEnd_22 rfl (by first | rfl | exact isRefV_rf _) ?_
      refine rj_iconst (pc := 23) dX3_beginToEnd_23 ?_
      refine rc_putS0 (pc := 24) dX3_beginToEnd_24 fX3_107 (by assumption) (by omega) (fun h_24 hW_24 hS_24 => ?_)
      have hR_24 := hR.ofW hS_24 hW_24
      refine r_goto (pc := 27) (tgt := 56) dX3_beginToEnd_27 (by decide) ?_
      refine r_aload_n (pc := 56) dX3_beginToEnd_56 rfl (by first | rfl | exact isRefV_rf _) ?_
      refine r_getf (pc := 57) dX3_beginToEnd_57 fX3_23 (by first | assumption | exact isI.gx (by assumption) | exact isI.gc (by assumption) | exact isW.gx (by assumption) | exact isW.gF (by assumption) | exact isW.gT (by assumption) (by omega) | exact isW.gS (by assumption) (by omega) | exact isW.gK (by assumption) (by omega) | exact isW.g1 (by assumption) | exact isW.g2 (by assumption) | exact isW.g3 (by assumption) | exact isI.gx (isW.i0 (by assumption)) | exact isI.gc (isW.i0 (by assumption)) | exact isI.gx (isW.i1 (by assumption)) | exact isI.gc (isW.i1 (by assumption)) | exact isI.gx (isW.i2 (by assumption)) | exact isI.gc (isW.i2 (by assumption)) | exact isI.gx (isW.i3 (by assumption)) | exact isI.gc (isW.i3 (by assumption)) | exact isI.gx (isW.i4 (by assumption)) | exact isI.gc (isW.i4 (by assumption)) | exact isI.gx (isW.i5 (by assumption)) | exact isI.gc (isW.i5 (by assumption)) | exact isR.gx (by assumption) | exact isRd.gx (by assumption) | exact isSp.gx (by assumption) | exact isI.gx (isR.i (by assumption)) | exact isI.gx (isRd.i (by assumption)) | exact isI.gc (isRd.i (by assumption)) | exact isI.gx (isSp.i (by assumption)) | exact isW.gx (isR.w (by assumption)) | exact isW.gF (isR.w (by assumption)) | fail "no such object") (by rfl) ?_
      refine r_iload_n (pc := 60) dX3_beginToEnd_60 rfl ?_
      refine r_callV1 (pc := 61) dX3_beginToEnd_61 qX1_append kX3_84 vX1_append (by first | assumption | exact isI.gx (by assumption) | exact isI.gc (by assumption) | exact isW.gx (by assumption) | exact isW.gF (by assumption) | exact isW.gT (by assumption) (by omega) | exact isW.gS (by assumption) (by omega) | exact isW.gK (by assumption) (by omega) | exact isW.g1 (by assumption) | exact isW.g2 (by assumption) | exact isW.g3 (by assumption) | exact isI.gx (isW.i0 (by assumption)) | exact isI.gc (isW.i0 (by assumption)) | exact isI.gx (isW.i1 (by assumption)) | exact isI.gc (isW.i1 (by assumption)) | exact isI.gx (isW.i2 (by assumption)) | exact isI.gc (isW.i2 (by assumption)) | exact isI.gx (isW.i3 (by assumption)) | exact isI.gc (isW.i3 (by assumption)) | exact isI.gx (isW.i4 (by assumption)) | exact isI.gc (isW.i4 (by assumption)) | exact isI.gx (isW.i5 (by assumption)) | exact isI.gc (isW.i5 (by assumption)) | exact isR.gx (by assumption) | exact isRd.gx (by assumption) | exact isSp.gx (by assumption) | exact isI.gx (isR.i (by assumption)) | exact isI.gx (isRd.i (by assumption)) | exact isI.gc (isRd.i (by assumption)) | exact isI.gx (isSp.i (by assumption)) | exact isW.gx (isR.w (by assumption)) | exact isW.gF (isR.w (by assumption)) | fail "no such object") rfl rfl (Nat.le_of_ble_eq_true rfl) (ci_append _ hR_24.i (by decide) hz i) (fun v_61 h_61 q_61 => ?_)
      obtain ⟨rfl, I_61, S_61⟩ := q_61
      refine r_pop (pc := 64) dX3_beginToEnd_64 (by first | rfl | (cases ‹Option Nat› <;> rfl)) ?_
      refine r_return (pc := 65) dX3_beginToEnd_65 rfl ?_
      rw [if_pos (by omega), if_pos (by omega)] at I_61
      exact ⟨rfl, hR_24.ofI S_61 I_61, (hS_24.mono (fun q hq => w_rBlk hq)).trans (S_61.mono (fun q hq => i_rBlk hq))⟩
set_option maxHeartbeats 4000000 in
set_option maxRecDepth 100000 in
theorem cr_goOnShutting0 {G : mG} {l : Launch} (d : Nat) {h : mH} {r : Nat} {b z : Int} {f : Nat → Int} {c : Nat → Int} {C : Nat → Nat → Int} {nm : Nat → Int64} {g : Nat → Option Nat} (hR : isR h r b z f c C nm g) (hc : ∀ q, InR (c q)) (hz : InR z) (hC : ∀ k q, InR (C k q)) (hz0 : 0 < z) (h1 : c 1 = 1) (h10 : c 10 = 0) : RUNM G l (d + 3) mX3_goOnShutting [.ref r, .int (J 0)] h (fun v h' => v = none ∧ isR h' r b (z - 1) f (updI (updI c (304 + 3 * 0) 0) (8 + 2) 0) (updC C 2 (C 2)) nm g ∧ Same (rBlk r) h h') := by
  refine RUNM.of (by decide +kernel) (Nat.le_of_ble_eq_true rfl) ?_
  have r1 := hc 1
  have hW := hR.w
  refine r_aload_n (pc := 0) dX3_goOnShutting_0 rfl (by first | rfl | exact isRefV_rf _) ?_
  refine r_getf (pc := 1) dX3_goOnShutting_1 fX3_12 (by first | assumption | exact isI.gx (by assumption) | exact isI.gc (by assumption) | exact isW.gx (by assumption) | exact isW.gF (by assumption) | exact isW.gT (by assumption) (by omega) | exact isW.gS (by assumption) (by omega) | exact isW.gK (by assumption) (by omega) | exact isW.g1 (by assumption) | exact isW.g2 (by assumption) | exact isW.g3 (by assumption) | exact isI.gx (isW.i0 (by assumption)) | exact isI.gc (isW.i0 (by assumption)) | exact isI.gx (isW.i1 (by assumption)) | exact isI.gc (isW.i1 (by assumption)) | exact isI.gx (isW.i2 (by assumption)) | exact isI.gc (isW.i2 (by assumption)) | exact isI.gx (isW.i3 (by assumption)) | exact isI.gc (isW.i3 (by assumption)) | exact isI.gx (isW.i4 (by assumption)) | exact isI.gc (isW.i4 (by assumption)) | exact isI.gx (isW.i5 (by assumption)) | exact isI.gc (isW.i5 (by assumption)) | exact isR.gx (by assumption) | exact isRd.gx (by assumption) | exact isSp.gx (by assumption) | exact isI.gx (isR.i (by assumption)) | exact isI.gx (isRd.i (by assumption)) | exact isI.gc (isRd.i (by assumption)) | exact isI.gx (isSp.i (by assumption)) | exact isW.gx (isR.w (by assumption)) | exact isW.gF (isR.w (by assumption)) | fail "no such object") (by rfl) ?_
  refine r_iload_n (pc := 4) dX3_goOnShutting_4 rfl ?_
  refine r_callV1 (pc := 5) dX3_goOnShutting_5 qX9_lastToEnd kX3_155 vX9_lastToEnd (by first | assumption | exact isI.gx (by assumption) | exact isI.gc (by assumption) | exact isW.gx (by assumption) | exact isW.gF (by assumption) | exact isW.gT (by assumption) (by omega) | exact isW.gS (by assumption) (by omega) | exact isW.gK (by assumption) (by omega) | exact isW.g1 (by assumption) | exact isW.g2 (by assumption) | exact isW.g3 (by assumption) | exact isI.gx (isW.i0 (by assumption)) | exact isI.gc (isW.i0 (by assumption)) | exact isI.gx (isW.i1 (by assumption)) | exact isI.gc (isW.i1 (by assumption)) | exact isI.gx (isW.i2 (by assumption)) | exact isI.gc (isW.i2 (by assumption)) | exact isI.gx (isW.i3 (by assumption)) | exact isI.gc (isW.i3 (by assumption)) | exact isI.gx (isW.i4 (by assumption)) | exact isI.gc (isW.i4 (by assumption)) | exact isI.gx (isW.i5 (by assumption)) | exact isI.gc (isW.i5 (by assumption)) | exact isR.gx (by assumption) | exact isRd.gx (by assumption) | exact isSp.gx (by assumption) | exact isI.gx (isR.i (by assumption)) | exact isI.gx (isRd.i (by assumption)) | exact isI.gc (isRd.i (by assumption)) | exact isI.gx (isSp.i (by assumption)) | exact isW.gx (isR.w (by assumption)) | exact isW.gF (isR.w (by assumption)) | fail "no such object") rfl rfl (Nat.le_of_ble_eq_true rfl) (c0_lastToEnd _ hR.w hc h10 0) (fun v_5 h_5 q_5 => ?_)
  obtain ⟨rfl, rfl⟩ := q_5
  refine r_istore_n (pc := 8) dX3_goOnShutting_8 (Nat.le_of_ble_eq_true rfl) ?_
  dsimp only [lsSt, List.set, mLs, mEnt]
  refine r_iload_n (pc := 9) dX3_goOnShutting_9 rfl ?_
  refine rj_if_lt (pc := 10) (tgt := 19) dX3_goOnShutting_10 (by decide) (by first | exact b01_r | exact bz_r | omega | (constructor <;> omega) | apply_assumption | (apply atF_r; assumption) | fail "no range") (fun c_10 => ?_) (fun c_10 => ?_)
  · refine r_aload_n (pc := 19) dX3_goOnShutting_19 rfl (by first | rfl | exact isRefV_rf _) ?_
    refine r_getf (pc := 20) dX3_goOnShutting_20 fX3_12 (by first | assumption | exact isI.gx (by assumption) | exact isI.gc (by assumption) | exact isW.gx (by assumption) | exact isW.gF (by assumption) | exact isW.gT (by assumption) (by omega) | exact isW.gS (by assumption) (by omega) | exact isW.gK (by assumption) (by omega) | exact isW.g1 (by assumption) | exact isW.g2 (by assumption) | exact isW.g3 (by assumption) | exact isI.gx (isW.i0 (by assumption)) | exact isI.gc (isW.i0 (by assumption)) | exact isI.gx (isW.i1 (by assumption)) | exact isI.gc (isW.i1 (by assumption)) | exact isI.gx (isW.i2 (by assumption)) | exact isI.gc (isW.i2 (by assumption)) | exact isI.gx (isW.i3 (by assumption)) | exact isI.gc (isW.i3 (by assumption)) | exact isI.gx (isW.i4 (by assumption)) | exact isI.gc (isW.i4 (by assumption)) | exact isI.gx (isW.i5 (by assumption)) | exact isI.gc (isW.i5 (by assumption)) | exact isR.gx (by assumption) | exact isRd.gx (by assumption) | exact isSp.gx (by assumption) | exact isI.gx (isR.i (by assumption)) | exact isI.gx (isRd.i (by assumption)) | exact isI.gc (isRd.i (by assumption)) | exact isI.gx (isSp.i (by assumption)) | exact isW.gx (isR.w (by assumption)) | exact isW.gF (isR.w (by assumption)) | fail "no such object") (by rfl) ?_
    refine r_iload_n (pc := 23) dX3_goOnShutting_23 rfl ?_
    refine r_callV1 (pc := 24) dX3_goOnShutting_24 qX9_scopeAt kX3_103 vX9_scopeAt (by first | assumption | exact isI.gx (by assumption) | exact isI.gc (by assumption) | exact isW.gx (by assumption) | exact isW.gF (by assumption) | exact isW.gT (by assumption) (by omega) | exact isW.gS (by assumption) (by omega) | exact isW.gK (by assumption) (by omega) | exact isW.g1 (by assumption) | exact isW.g2 (by assumption) | exact isW.g3 (by assumption) | exact isI.gx (isW.i0 (by assumption)) | exact isI.gc (isW.i0 (by assumption)) | exact isI.gx (isW.i1 (by assumption)) | exact isI.gc (isW.i1 (by assumption)) | exact isI.gx (isW.i2 (by assumption)) | exact isI.gc (isW.i2 (by assumption)) | exact isI.gx (isW.i3 (by assumption)) | exact isI.gc (isW.i3 (by assumption)) | exact isI.gx (isW.i4 (by assumption)) | exact isI.gc (isW.i4 (by assumption)) | exact isI.gx (isW.i5 (by assumption)) | exact isI.gc (isW.i5 (by assumption)) | exact isR.gx (by assumption) | exact isRd.gx (by assumption) | exact isSp.gx (by assumption) | exact isI.gx (isR.i (by assumption)) | exact isI.gx (isRd.i (by assumption)) | exact isI.gc (isRd.i (by assumption)) | exact isI.gx (isSp.i (by assumption)) | exact isW.gx (isR.w (by assumption)) | exact isW.gF (isR.w (by assumption)) | fail "no such object") rfl rfl (Nat.le_of_ble_eq_true rfl) (cw_scopeAt _ hR.w hc (i := 0) (by decide)) (fun v_24 h_24 q_24 => ?_)
    obtain ⟨q1_24, rfl⟩ := q_24
    · obtain rfl := scAt_P (by omega) q1_24
      refine r_astore_n (pc := 27) dX3_goOnShutting_27 (Nat.le_of_ble_eq_true rfl) (by first | rfl | exact isRefV_rf _) ?_
      dsimp only [lsSt, List.set, mLs, mEnt]
      refine r_aload_n (pc := 28) dX3_goOnShutting_28 rfl (by first | rfl | exact isRefV_rf _) ?_
      refine r_ifnull (pc := 29) (tgt := 59) dX3_goOnShutting_29 (by decide) (by first | rfl | exact isRefV_rf _) (fun c_29 => by cases c_29) (fun a_29 c_29 => ?_)
      refine r_aload_n (pc := 32) dX3_goOnShutting_32 rfl (by first | rfl | exact isRefV_rf _) ?_
      refine r_iload_n (pc := 33) dX3_goOnShutting_33 rfl ?_
      refine rj_if_ne (pc := 34) (tgt := 41) dX3_goOnShutting_34 (by decide) (by first | exact b01_r | exact bz_r | omega | (constructor <;> omega) | apply_assumption | (apply atF_r; assumption) | fail "no range") (fun c_34 => ?_) (fun c_34 => ?_)
      · try simp only [b01_0, bz_0, Classical.not_not] at c_34
        exfalso
        first | omega | exact absurd trivial ‹¬ True›
      · try simp only [b01_0, bz_0, Classical.not_not] at c_34
        refine rj_iconst (pc := 37) dX3_goOnShutting_37 ?_
        refine r_goto (pc := 38) (tgt := 42) dX3_goOnShutting_38 (by decide) ?_
        refine rc_putS0 (pc := 42) dX3_goOnShutting_42 fX3_107 (by assumption) (by omega) (fun h_42 hW_42 hS_42 => ?_)
        have hR_42 := hR.ofW hS_42 hW_42
        refine r_aload_n (pc := 45) dX3_goOnShutting_45 rfl (by first | rfl | exact isRefV_rf _) ?_
        refine r_getf (pc := 46) dX3_goOnShutting_46 fX3_12 (by first | assumption | exact isI.gx (by assumption) | exact isI.gc (by assumption) | exact isW.gx (by assumption) | exact isW.gF (by assumption) | exact isW.gT (by assumption) (by omega) | exact isW.gS (by assumption) (by omega) | exact isW.gK (by assumption) (by omega) | exact isW.g1 (by assumption) | exact isW.g2 (by assumption) | exact isW.g3 (by assumption) | exact isI.gx (isW.i0 (by assumption)) | exact isI.gc (isW.i0 (by assumption)) | exact isI.gx (isW.i1 (by assumption)) | exact isI.gc (isW.i1 (by assumption)) | exact isI.gx (isW.i2 (by assumption)) | exact isI.gc (isW.i2 (by assumption)) | exact isI.gx (isW.i3 (by assumption)) | exact isI.gc (isW.i3 (by assumption)) | exact isI.gx (isW.i4 (by assumption)) | exact isI.gc (isW.i4 (by assumption)) | exact isI.gx (isW.i5 (by assumption)) | exact isI.gc (isW.i5 (by assumption)) | exact isR.gx (by assumption) | exact isRd.gx (by assumption) | exact isSp.gx (by assumption) | exact isI.gx (isR.i (by assumption)) | exact isI.gx (isRd.i (by assumption)) | exact isI.gc (isRd.i (by assumption)) | exact isI.gx (isSp.i (by assumption)) | exact isW.gx (isR.w (by assumption)) | exact isW.gF (isR.w (by assumption)) | fail "no such object") (by rfl) ?_
        refine r_getf (pc := 49) dX3_goOnShutting_49 fX3_133 (by first | assumption | exact isI.gx (by assumption) | exact isI.gc (by assumption) | exact isW.gx (by assumption) | exact isW.gF (by assumption) | exact isW.gT (by assumption) (by omega) | exact isW.gS (by assumption) (by omega) | exact isW.gK (by assumption) (by omega) | exact isW.g1 (by assumption) | exact isW.g2 (by assumption) | exact isW.g3 (by assumption) | exact isI.gx (isW.i0 (by assumption)) | exact isI.gc (isW.i0 (by assumption)) | exact isI.gx (isW.i1 (by assumption)) | exact isI.gc (isW.i1 (by assumption)) | exact isI.gx (isW.i2 (by assumption)) | exact isI.gc (isW.i2 (by assumption)) | exact isI.gx (isW.i3 (by assumption)) | exact isI.gc (isW.i3 (by assumption)) | exact isI.gx (isW.i4 (by assumption)) | exact isI.gc (isW.i4 (by assumption)) | exact isI.gx (isW.i5 (by assumption)) | exact isI.gc (isW.i5 (by assumption)) | exact isR.gx (by assumption) | exact isRd.gx (by assumption) | exact isSp.gx (by assumption) | exact isI.gx (isR.i (by assumption)) | exact isI.gx (isRd.i (by assumption)) | exact isI.gc (isRd.i (by assumption)) | exact isI.gx (isSp.i (by assumption)) | exact isW.gx (isR.w (by assumption)) | exact isW.gF (isR.w (by assumption)) | fail "no such object") (by rfl) ?_
        refine rj_bipush (pc := 52) dX3_goOnShutting_52 (by decide +kernel) ?_
        refine r_iload_n (pc := 54) dX3_goOnShutting_54 rfl ?_
        refine rj_iadd (pc := 55) dX3_goOnShutting_55 ?_
        have e10 : updI c (304 + 3 * Int.toNat 0) 0 10 = ((0 : Nat) : Int) := by rw [updI_n (by decide)]; exact h10
        have i2 := hW_42.i2
        rw [e10] at i2
        refine r_callV1 (pc := 56) dX3_goOnShutting_56 qX1_drop kX3_136 vX1_drop (by first | assumption | exact isI.gx (by assumption) | exact isI.gc (by assumption) | exact isW.gx (by assumption) | exact isW.gF (by assumption) | exact isW.gT (by assumption) (by omega) | exact isW.gS (by assumption) (by omega) | exact isW.gK (by assumption) (by omega) | exact isW.g1 (by assumption) | exact isW.g2 (by assumption) | exact isW.g3 (by assumption) | exact isI.gx (isW.i0 (by assumption)) | exact isI.gc (isW.i0 (by assumption)) | exact isI.gx (isW.i1 (by assumption)) | exact isI.gc (isW.i1 (by assumption)) | exact isI.gx (isW.i2 (by assumption)) | exact isI.gc (isW.i2 (by assumption)) | exact isI.gx (isW.i3 (by assumption)) | exact isI.gc (isW.i3 (by assumption)) | exact isI.gx (isW.i4 (by assumption)) | exact isI.gc (isW.i4 (by assumption)) | exact isI.gx (isW.i5 (by assumption)) | exact isI.gc (isW.i5 (by assumption)) | exact isR.gx (by assumption) | exact isRd.gx (by assumption) | exact isSp.gx (by assumption) | exact isI.gx (isR.i (by assumption)) | exact isI.gx (isRd.i (by assumption)) | exact isI.gc (isRd.i (by assumption)) | exact isI.gx (isSp.i (by assumption)) | exact isW.gx (isR.w (by assumption)) | exact isW.gF (isR.w (by assumption)) | fail "no such object") rfl rfl (Nat.le_of_ble_eq_true rfl) (ci_drop _ i2 (x := 100 + 0) (by decide) (by decide) (by omega) (hC 2)) (fun v_56 h_56 q_56 => ?_)
        obtain ⟨rfl, I_56, S_56⟩ := q_56
        have hW_56 := hW_42.ofI (j := 2) (by decide) S_56 I_56
        have hR_56 := hR_42.ofW (S_56.mono (fun q hq => iBlk_wBlk (j := 2) hq)) hW_56
        have hcc := updI_r (updI_r hc (k := 304 + 3 * 0) (v := 0) (by decide)) (k := 8 + 2) (v := 0) (by decide)
        refine r_aload_n (pc := 59) dX3_goOnShutting_59 rfl (by first | rfl | exact isRefV_rf _) ?_
        refine r_callV0 (pc := 60) dX3_goOnShutting_60 qX3_leave kX3_124 vX3_leave (by first | assumption | exact isI.gx (by assumption) | exact isI.gc (by assumption) | exact isW.gx (by assumption) | exact isW.gF (by assumption) | exact isW.gT (by assumption) (by omega) | exact isW.gS (by assumption) (by omega) | exact isW.gK (by assumption) (by omega) | exact isW.g1 (by assumption) | exact isW.g2 (by assumption) | exact isW.g3 (by assumption) | exact isI.gx (isW.i0 (by assumption)) | exact isI.gc (isW.i0 (by assumption)) | exact isI.gx (isW.i1 (by assumption)) | exact isI.gc (isW.i1 (by assumption)) | exact isI.gx (isW.i2 (by assumption)) | exact isI.gc (isW.i2 (by assumption)) | exact isI.gx (isW.i3 (by assumption)) | exact isI.gc (isW.i3 (by assumption)) | exact isI.gx (isW.i4 (by assumption)) | exact isI.gc (isW.i4 (by assumption)) | exact isI.gx (isW.i5 (by assumption)) | exact isI.gc (isW.i5 (by assumption)) | exact isR.gx (by assumption) | exact isRd.gx (by assumption) | exact isSp.gx (by assumption) | exact isI.gx (isR.i (by assumption)) | exact isI.gx (isRd.i (by assumption)) | exact isI.gc (isRd.i (by assumption)) | exact isI.gx (isSp.i (by assumption)) | exact isW.gx (isR.w (by assumption)) | exact isW.gF (isR.w (by assumption)) | fail "no such object") rfl rfl (Nat.le_of_ble_eq_true rfl) (cr_leave _ hR_56 hcc hz hz0) (fun v_60 h_60 q_60 => ?_)
        obtain ⟨rfl, hR_60, S_60⟩ := q_60
        refine r_return (pc := 63) dX3_goOnShutting_63 rfl ?_
        exact ⟨rfl, hR_60, (hS_42.mono (fun q hq => w_rBlk hq)).trans ((S_56.mono (fun q hq => w_rBlk (iBlk_wBlk (j := 2) hq))).trans S_60)⟩
  · exfalso
    first | omega | exact absurd trivial ‹¬ True›
set_option maxHeartbeats 4000000 in
set_option maxRecDepth 100000 in
theorem cr_work0 {G : mG} {l : Launch} (d : Nat) {h : mH} {r : Nat} {b : Int} {f : Nat → Int} {c : Nat → Int} {C : Nat → Nat → Int} {nm : Nat → Int64} {g : Nat → Option Nat} (hR : isR h r b 0 f c C nm g) : RUNM G l (d + 4) mX3_work [.ref r] h (fun v h' => v = none ∧ isR h' r b 0 f c C nm g ∧ Same (rBlk r) h h') := by
  refine RUNM.of (by decide +kernel) (Nat.le_of_ble_eq_true rfl) ?_
  refine rj_iconst (pc := 0) dX3_work_0 ?_
  refine r_istore_n (pc := 1) dX3_work_1 (Nat.le_of_ble_eq_true rfl) ?_
  dsimp only [lsSt, List.set, mLs, mEnt]
  refine r_iload_n (pc := 2) dX3_work_2 rfl ?_
  refine rj_ldc 1000000 (pc := 3) dX3_work_3 oX3_87 (by decide +kernel) ?_
  refine rj_icmp_ge (pc := 5) (tgt := 82) dX3_work_5 (by decide) (by first | exact b01_r | exact bz_r | omega | (constructor <;> omega) | apply_assumption | (apply atF_r; assumption) | fail "no range") (by first | exact b01_r | exact bz_r | omega | (constructor <;> omega) | apply_assumption | (apply atF_r; assumption) | fail "no range") (fun c_5 => ?_) (fun c_5 => ?_)
  · exfalso
    first | omega | exact absurd trivial ‹¬ True›
  · refine r_aload_n (pc := 8) dX3_work_8 rfl (by first | rfl | exact isRefV_rf _) ?_
    refine r_getf (pc := 9) dX3_work_9 fX3_23 (by first | assumption | exact isI.gx (by assumption) | exact isI.gc (by assumption) | exact isW.gx (by assumption) | exact isW.gF (by assumption) | exact isW.gT (by assumption) (by omega) | exact isW.gS (by assumption) (by omega) | exact isW.gK (by assumption) (by omega) | exact isW.g1 (by assumption) | exact isW.g2 (by assumption) | exact isW.g3 (by assumption) | exact isI.gx (isW.i0 (by assumption)) | exact isI.gc (isW.i0 (by assumption)) | exact isI.gx (isW.i1 (by assumption)) | exact isI.gc (isW.i1 (by assumption)) | exact isI.gx (isW.i2 (by assumption)) | exact isI.gc (isW.i2 (by assumption)) | exact isI.gx (isW.i3 (by assumption)) | exact isI.gc (isW.i3 (by assumption)) | exact isI.gx (isW.i4 (by assumption)) | exact isI.gc (isW.i4 (by assumption)) | exact isI.gx (isW.i5 (by assumption)) | exact isI.gc (isW.i5 (by assumption)) | exact isR.gx (by assumption) | exact isRd.gx (by assumption) | exact isSp.gx (by assumption) | exact isI.gx (isR.i (by assumption)) | exact isI.gx (isRd.i (by assumption)) | exact isI.gc (isRd.i (by assumption)) | exact isI.gx (isSp.i (by assumption)) | exact isW.gx (isR.w (by assumption)) | exact isW.gF (isR.w (by assumption)) | fail "no such object") (by rfl) ?_
    refine r_getf (pc := 12) dX3_work_12 fX3_88 (by first | assumption | exact isI.gx (by assumption) | exact isI.gc (by assumption) | exact isW.gx (by assumption) | exact isW.gF (by assumption) | exact isW.gT (by assumption) (by omega) | exact isW.gS (by assumption) (by omega) | exact isW.gK (by assumption) (by omega) | exact isW.g1 (by assumption) | exact isW.g2 (by assumption) | exact isW.g3 (by assumption) | exact isI.gx (isW.i0 (by assumption)) | exact isI.gc (isW.i0 (by assumption)) | exact isI.gx (isW.i1 (by assumption)) | exact isI.gc (isW.i1 (by assumption)) | exact isI.gx (isW.i2 (by assumption)) | exact isI.gc (isW.i2 (by assumption)) | exact isI.gx (isW.i3 (by assumption)) | exact isI.gc (isW.i3 (by assumption)) | exact isI.gx (isW.i4 (by assumption)) | exact isI.gc (isW.i4 (by assumption)) | exact isI.gx (isW.i5 (by assumption)) | exact isI.gc (isW.i5 (by assumption)) | exact isR.gx (by assumption) | exact isRd.gx (by assumption) | exact isSp.gx (by assumption) | exact isI.gx (isR.i (by assumption)) | exact isI.gx (isRd.i (by assumption)) | exact isI.gc (isRd.i (by assumption)) | exact isI.gx (isSp.i (by assumption)) | exact isW.gx (isR.w (by assumption)) | exact isW.gF (isR.w (by assumption)) | fail "no such object") (by rfl) ?_
    refine rj_if_le (pc := 15) (tgt := 82) dX3_work_15 (by decide) (by first | exact b01_r | exact bz_r | omega | (constructor <;> omega) | apply_assumption | (apply atF_r; assumption) | fail "no range") (fun c_15 => ?_) (fun c_15 => ?_)
    · refine r_aload_n (pc := 82) dX3_work_82 rfl (by first | rfl | exact isRefV_rf _) ?_
      refine r_getf (pc := 83) dX3_work_83 fX3_23 (by first | assumption | exact isI.gx (by assumption) | exact isI.gc (by assumption) | exact isW.gx (by assumption) | exact isW.gF (by assumption) | exact isW.gT (by assumption) (by omega) | exact isW.gS (by assumption) (by omega) | exact isW.gK (by assumption) (by omega) | exact isW.g1 (by assumption) | exact isW.g2 (by assumption) | exact isW.g3 (by assumption) | exact isI.gx (isW.i0 (by assumption)) | exact isI.gc (isW.i0 (by assumption)) | exact isI.gx (isW.i1 (by assumption)) | exact isI.gc (isW.i1 (by assumption)) | exact isI.gx (isW.i2 (by assumption)) | exact isI.gc (isW.i2 (by assumption)) | exact isI.gx (isW.i3 (by assumption)) | exact isI.gc (isW.i3 (by assumption)) | exact isI.gx (isW.i4 (by assumption)) | exact isI.gc (isW.i4 (by assumption)) | exact isI.gx (isW.i5 (by assumption)) | exact isI.gc (isW.i5 (by assumption)) | exact isR.gx (by assumption) | exact isRd.gx (by assumption) | exact isSp.gx (by assumption) | exact isI.gx (isR.i (by assumption)) | exact isI.gx (isRd.i (by assumption)) | exact isI.gc (isRd.i (by assumption)) | exact isI.gx (isSp.i (by assumption)) | exact isW.gx (isR.w (by assumption)) | exact isW.gF (isR.w (by assumption)) | fail "no such object") (by rfl) ?_
      refine rj_iconst (pc := 86) dX3_work_86 ?_
      refine rc_putz (pc := 87) dX3_work_87 fX3_88 (by first | assumption | exact isW.i0 (by assumption) | exact isW.i1 (by assumption) | exact isW.i2 (by assumption) | exact isW.i3 (by assumption) | exact isW.i4 (by assumption) | exact isW.i5 (by assumption) | exact isR.i (by assumption) | exact isRd.i (by assumption) | exact isSp.i (by assumption) | fail "no such row") (fun h_87 hI_87 hS_87 => ?_)
      refine r_return (pc := 90) dX3_work_90 rfl ?_
      exact ⟨rfl, hR.ofI hS_87 hI_87, hS_87.mono (fun q hq => i_rBlk hq)⟩
    · exfalso
      first | omega | exact absurd trivial ‹¬ True›
set_option maxHeartbeats 4000000 in
set_option maxRecDepth 100000 in
theorem cr_work1 {G : mG} {l : Launch} (d : Nat) {h : mH} {r : Nat} {b : Int} {f : Nat → Int} {c : Nat → Int} {C : Nat → Nat → Int} {nm : Nat → Int64} {g : Nat → Option Nat} (hR : isR h r b 1 f c C nm g) (hc : ∀ q, InR (c q)) (hC : ∀ k q, InR (C k q)) (hf0 : f 0 = 100) (h1 : c 1 = 1) (h10 : c 10 = 0) : RUNM G l (d + 5) mX3_work [.ref r] h (fun v h' => v = none ∧ isR h' r b 0 f (updI (updI c (304 + 3 * 0) 0) (8 + 2) 0) (updC C 2 (C 2)) nm g ∧ Same (rBlk r) h h') := by
  refine RUNM.of (by decide +kernel) (Nat.le_of_ble_eq_true rfl) ?_
  refine rj_iconst (pc := 0) dX3_work_0 ?_
  refine r_istore_n (pc := 1) dX3_work_1 (Nat.le_of_ble_eq_true rfl) ?_
  dsimp only [lsSt, List.set, mLs, mEnt]
  refine r_iload_n (pc := 2) dX3_work_2 rfl ?_
  refine rj_ldc 1000000 (pc := 3) dX3_work_3 oX3_87 (by decide +kernel) ?_
  refine rj_icmp_ge (pc := 5) (tgt := 82) dX3_work_5 (by decide) (by first | exact b01_r | exact bz_r | omega | (constructor <;> omega) | apply_assumption | (apply atF_r; assumption) | fail "no range") (by first | exact b01_r | exact bz_r | omega | (constructor <;> omega) | apply_assumption | (apply atF_r; assumption) | fail "no range") (fun c_5 => ?_) (fun c_5 => ?_)
  · exfalso
    first | omega | exact absurd trivial ‹¬ True›
  · refine r_aload_n (pc := 8) dX3_work_8 rfl (by first | rfl | exact isRefV_rf _) ?_
    refine r_getf (pc := 9) dX3_work_9 fX3_23 (by first | assumption | exact isI.gx (by assumption) | exact isI.gc (by assumption) | exact isW.gx (by assumption) | exact isW.gF (by assumption) | exact isW.gT (by assumption) (by omega) | exact isW.gS (by assumption) (by omega) | exact isW.gK (by assumption) (by omega) | exact isW.g1 (by assumption) | exact isW.g2 (by assumption) | exact isW.g3 (by assumption) | exact isI.gx (isW.i0 (by assumption)) | exact isI.gc (isW.i0 (by assumption)) | exact isI.gx (isW.i1 (by assumption)) | exact isI.gc (isW.i1 (by assumption)) | exact isI.gx (isW.i2 (by assumption)) | exact isI.gc (isW.i2 (by assumption)) | exact isI.gx (isW.i3 (by assumption)) | exact isI.gc (isW.i3 (by assumption)) | exact isI.gx (isW.i4 (by assumption)) | exact isI.gc (isW.i4 (by assumption)) | exact isI.gx (isW.i5 (by assumption)) | exact isI.gc (isW.i5 (by assumption)) | exact isR.gx (by assumption) | exact isRd.gx (by assumption) | exact isSp.gx (by assumption) | exact isI.gx (isR.i (by assumption)) | exact isI.gx (isRd.i (by assumption)) | exact isI.gc (isRd.i (by assumption)) | exact isI.gx (isSp.i (by assumption)) | exact isW.gx (isR.w (by assumption)) | exact isW.gF (isR.w (by assumption)) | fail "no such object") (by rfl) ?_
    refine r_getf (pc := 12) dX3_work_12 fX3_88 (by first | assumption | exact isI.gx (by assumption) | exact isI.gc (by assumption) | exact isW.gx (by assumption) | exact isW.gF (by assumption) | exact isW.gT (by assumption) (by omega) | exact isW.gS (by assumption) (by omega) | exact isW.gK (by assumption) (by omega) | exact isW.g1 (by assumption) | exact isW.g2 (by assumption) | exact isW.g3 (by assumption) | exact isI.gx (isW.i0 (by assumption)) | exact isI.gc (isW.i0 (by assumption)) | exact isI.gx (isW.i1 (by assumption)) | exact isI.gc (isW.i1 (by assumption)) | exact isI.gx (isW.i2 (by assumption)) | exact isI.gc (isW.i2 (by assumption)) | exact isI.gx (isW.i3 (by assumption)) | exact isI.gc (isW.i3 (by assumption)) | exact isI.gx (isW.i4 (by assumption)) | exact isI.gc (isW.i4 (by assumption)) | exact isI.gx (isW.i5 (by assumption)) | exact isI.gc (isW.i5 (by assumption)) | exact isR.gx (by assumption) | exact isRd.gx (by assumption) | exact isSp.gx (by assumption) | exact isI.gx (isR.i (by assumption)) | exact isI.gx (isRd.i (by assumption)) | exact isI.gc (isRd.i (by assumption)) | exact isI.gx (isSp.i (by assumption)) | exact isW.gx (isR.w (by assumption)) | exact isW.gF (isR.w (by assumption)) | fail "no such object") (by rfl) ?_
    refine rj_if_le (pc := 15) (tgt := 82) dX3_work_15 (by decide) (by first | exact b01_r | exact bz_r | omega | (constructor <;> omega) | apply_assumption | (apply atF_r; assumption) | fail "no range") (fun c_15 => ?_) (fun c_15 => ?_)
    · exfalso
      first | omega | exact absurd trivial ‹¬ True›
    · refine r_aload_n (pc := 18) dX3_work_18 rfl (by first | rfl | exact isRefV_rf _) ?_
      refine r_getf (pc := 19) dX3_work_19 fX3_23 (by first | assumption | exact isI.gx (by assumption) | exact isI.gc (by assumption) | exact isW.gx (by assumption) | exact isW.gF (by assumption) | exact isW.gT (by assumption) (by omega) | exact isW.gS (by assumption) (by omega) | exact isW.gK (by assumption) (by omega) | exact isW.g1 (by assumption) | exact isW.g2 (by assumption) | exact isW.g3 (by assumption) | exact isI.gx (isW.i0 (by assumption)) | exact isI.gc (isW.i0 (by assumption)) | exact isI.gx (isW.i1 (by assumption)) | exact isI.gc (isW.i1 (by assumption)) | exact isI.gx (isW.i2 (by assumption)) | exact isI.gc (isW.i2 (by assumption)) | exact isI.gx (isW.i3 (by assumption)) | exact isI.gc (isW.i3 (by assumption)) | exact isI.gx (isW.i4 (by assumption)) | exact isI.gc (isW.i4 (by assumption)) | exact isI.gx (isW.i5 (by assumption)) | exact isI.gc (isW.i5 (by assumption)) | exact isR.gx (by assumption) | exact isRd.gx (by assumption) | exact isSp.gx (by assumption) | exact isI.gx (isR.i (by assumption)) | exact isI.gx (isRd.i (by assumption)) | exact isI.gc (isRd.i (by assumption)) | exact isI.gx (isSp.i (by assumption)) | exact isW.gx (isR.w (by assumption)) | exact isW.gF (isR.w (by assumption)) | fail "no such object") (by rfl) ?_
      refine r_aload_n (pc := 22) dX3_work_22 rfl (by first | rfl | exact isRefV_rf _) ?_
      refine r_getf (pc := 23) dX3_work_23 fX3_23 (by first | assumption | exact isI.gx (by assumption) | exact isI.gc (by assumption) | exact isW.gx (by assumption) | exact isW.gF (by assumption) | exact isW.gT (by assumption) (by omega) | exact isW.gS (by assumption) (by omega) | exact isW.gK (by assumption) (by omega) | exact isW.g1 (by assumption) | exact isW.g2 (by assumption) | exact isW.g3 (by assumption) | exact isI.gx (isW.i0 (by assumption)) | exact isI.gc (isW.i0 (by assumption)) | exact isI.gx (isW.i1 (by assumption)) | exact isI.gc (isW.i1 (by assumption)) | exact isI.gx (isW.i2 (by assumption)) | exact isI.gc (isW.i2 (by assumption)) | exact isI.gx (isW.i3 (by assumption)) | exact isI.gc (isW.i3 (by assumption)) | exact isI.gx (isW.i4 (by assumption)) | exact isI.gc (isW.i4 (by assumption)) | exact isI.gx (isW.i5 (by assumption)) | exact isI.gc (isW.i5 (by assumption)) | exact isR.gx (by assumption) | exact isRd.gx (by assumption) | exact isSp.gx (by assumption) | exact isI.gx (isR.i (by assumption)) | exact isI.gx (isRd.i (by assumption)) | exact isI.gc (isRd.i (by assumption)) | exact isI.gx (isSp.i (by assumption)) | exact isW.gx (isR.w (by assumption)) | exact isW.gF (isR.w (by assumption)) | fail "no such object") (by rfl) ?_
      refine r_getf (pc := 26) dX3_work_26 fX3_88 (by first | assumption | exact isI.gx (by assumption) | exact isI.gc (by assumption) | exact isW.gx (by assumption) | exact isW.gF (by assumption) | exact isW.gT (by assumption) (by omega) | exact isW.gS (by assumption) (by omega) | exact isW.gK (by assumption) (by omega) | exact isW.g1 (by assumption) | exact isW.g2 (by assumption) | exact isW.g3 (by assumption) | exact isI.gx (isW.i0 (by assumption)) | exact isI.gc (isW.i0 (by assumption)) | exact isI.gx (isW.i1 (by assumption)) | exact isI.gc (isW.i1 (by assumption)) | exact isI.gx (isW.i2 (by assumption)) | exact isI.gc (isW.i2 (by assumption)) | exact isI.gx (isW.i3 (by assumption)) | exact isI.gc (isW.i3 (by assumption)) | exact isI.gx (isW.i4 (by assumption)) | exact isI.gc (isW.i4 (by assumption)) | exact isI.gx (isW.i5 (by assumption)) | exact isI.gc (isW.i5 (by assumption)) | exact isR.gx (by assumption) | exact isRd.gx (by assumption) | exact isSp.gx (by assumption) | exact isI.gx (isR.i (by assumption)) | exact isI.gx (isRd.i (by assumption)) | exact isI.gc (isRd.i (by assumption)) | exact isI.gx (isSp.i (by assumption)) | exact isW.gx (isR.w (by assumption)) | exact isW.gF (isR.w (by assumption)) | fail "no such object") (by rfl) ?_
      refine rj_iconst (pc := 29) dX3_work_29 ?_
      refine rj_isub (pc := 30) dX3_work_30 ?_
      refine r_callV1 (pc := 31) dX3_work_31 qX1_at kX3_91 vX1_at (by first | assumption | exact isI.gx (by assumption) | exact isI.gc (by assumption) | exact isW.gx (by assumption) | exact isW.gF (by assumption) | exact isW.gT (by assumption) (by omega) | exact isW.gS (by assumption) (by omega) | exact isW.gK (by assumption) (by omega) | exact isW.g1 (by assumption) | exact isW.g2 (by assumption) | exact isW.g3 (by assumption) | exact isI.gx (isW.i0 (by assumption)) | exact isI.gc (isW.i0 (by assumption)) | exact isI.gx (isW.i1 (by assumption)) | exact isI.gc (isW.i1 (by assumption)) | exact isI.gx (isW.i2 (by assumption)) | exact isI.gc (isW.i2 (by assumption)) | exact isI.gx (isW.i3 (by assumption)) | exact isI.gc (isW.i3 (by assumption)) | exact isI.gx (isW.i4 (by assumption)) | exact isI.gc (isW.i4 (by assumption)) | exact isI.gx (isW.i5 (by assumption)) | exact isI.gc (isW.i5 (by assumption)) | exact isR.gx (by assumption) | exact isRd.gx (by assumption) | exact isSp.gx (by assumption) | exact isI.gx (isR.i (by assumption)) | exact isI.gx (isRd.i (by assumption)) | exact isI.gc (isRd.i (by assumption)) | exact isI.gx (isSp.i (by assumption)) | exact isW.gx (isR.w (by assumption)) | exact isW.gF (isR.w (by assumption)) | fail "no such object") rfl rfl (Nat.le_of_ble_eq_true rfl) (ci_at _ hR.i (by decide) (by decide) (i := 1 - 1) (by decide)) (fun v_31 h_31 q_31 => ?_)
      obtain ⟨rfl, rfl⟩ := q_31
      rw [show atF 160 1 f (1 - 1) = 100 by unfold atF; rw [if_pos (by omega)]; exact hf0]
      refine r_istore_n (pc := 34) dX3_work_34 (Nat.le_of_ble_eq_true rfl) ?_
      dsimp only [lsSt, List.set, mLs, mEnt]
      refine r_iload_n (pc := 35) dX3_work_35 rfl ?_
      refine rj_sipush (pc := 36) dX3_work_36 (by decide +kernel) ?_
      refine rj_icmp_lt (pc := 39) (tgt := 54) dX3_work_39 (by decide) (by first | exact b01_r | exact bz_r | omega | (constructor <;> omega) | apply_assumption | (apply atF_r; assumption) | fail "no range") (by first | exact b01_r | exact bz_r | omega | (constructor <;> omega) | apply_assumption | (apply atF_r; assumption) | fail "no range") (fun c_39 => ?_) (fun c_39 => ?_)
      · refine r_iload_n (pc := 54) dX3_work_54 rfl ?_
        refine rj_bipush (pc := 55) dX3_work_55 (by decide +kernel) ?_
        refine rj_icmp_lt (pc := 57) (tgt := 71) dX3_work_57 (by decide) (by first | exact b01_r | exact bz_r | omega | (constructor <;> omega) | apply_assumption | (apply atF_r; assumption) | fail "no range") (by first | exact b01_r | exact bz_r | omega | (constructor <;> omega) | apply_assumption | (apply atF_r; assumption) | fail "no range") (fun c_57 => ?_) (fun c_57 => ?_)
        · exfalso
          first | omega | exact absurd trivial ‹¬ True›
        · refine r_aload_n (pc := 60) dX3_work_60 rfl (by first | rfl | exact isRefV_rf _) ?_
          refine r_iload_n (pc := 61) dX3_work_61 rfl ?_
          refine rj_bipush (pc := 62) dX3_work_62 (by decide +kernel) ?_
          refine rj_isub (pc := 64) dX3_work_64 ?_
          rw [show (100 - 100 : Int) = 0 by decide]
          refine r_callV1 (pc := 65) dX3_work_65 qX3_goOnShutting kX3_97 vX3_goOnShutting (by first | assumption | exact isI.gx (by assumption) | exact isI.gc (by assumption) | exact isW.gx (by assumption) | exact isW.gF (by assumption) | exact isW.gT (by assumption) (by omega) | exact isW.gS (by assumption) (by omega) | exact isW.gK (by assumption) (by omega) | exact isW.g1 (by assumption) | exact isW.g2 (by assumption) | exact isW.g3 (by assumption) | exact isI.gx (isW.i0 (by assumption)) | exact isI.gc (isW.i0 (by assumption)) | exact isI.gx (isW.i1 (by assumption)) | exact isI.gc (isW.i1 (by assumption)) | exact isI.gx (isW.i2 (by assumption)) | exact isI.gc (isW.i2 (by assumption)) | exact isI.gx (isW.i3 (by assumption)) | exact isI.gc (isW.i3 (by assumption)) | exact isI.gx (isW.i4 (by assumption)) | exact isI.gc (isW.i4 (by assumption)) | exact isI.gx (isW.i5 (by assumption)) | exact isI.gc (isW.i5 (by assumption)) | exact isR.gx (by assumption) | exact isRd.gx (by assumption) | exact isSp.gx (by assumption) | exact isI.gx (isR.i (by assumption)) | exact isI.gx (isRd.i (by assumption)) | exact isI.gc (isRd.i (by assumption)) | exact isI.gx (isSp.i (by assumption)) | exact isW.gx (isR.w (by assumption)) | exact isW.gF (isR.w (by assumption)) | fail "no such object") rfl rfl (Nat.le_of_ble_eq_true rfl) (cr_goOnShutting0 _ hR hc (by decide) hC (by decide) h1 h10) (fun v_65 h_65 q_65 => ?_)
          obtain ⟨rfl, hR_65, S_65⟩ := q_65
          refine r_goto (pc := 68) (tgt := 76) dX3_work_68 (by decide) ?_
          refine rj_iinc (pc := 76) dX3_work_76 (Nat.le_of_ble_eq_true rfl) rfl ?_
          dsimp only [lsSt, List.set, mLs, mEnt]
          refine r_goto (pc := 79) (tgt := 2) dX3_work_79 (by decide) ?_
          refine r_iload_n (pc := 2) dX3_work_2 rfl ?_
          refine rj_ldc 1000000 (pc := 3) dX3_work_3 oX3_87 (by decide +kernel) ?_
          refine rj_icmp_ge (pc := 5) (tgt := 82) dX3_work_5 (by decide) (by first | exact b01_r | exact bz_r | omega | (constructor <;> omega) | apply_assumption | (apply atF_r; assumption) | fail "no range") (by first | exact b01_r | exact bz_r | omega | (constructor <;> omega) | apply_assumption | (apply atF_r; assumption) | fail "no range") (fun c_5 => ?_) (fun c_5 => ?_)
          · exfalso
            first | omega | exact absurd trivial ‹¬ True›
          · refine r_aload_n (pc := 8) dX3_work_8 rfl (by first | rfl | exact isRefV_rf _) ?_
            refine r_getf (pc := 9) dX3_work_9 fX3_23 (by first | assumption | exact isI.gx (by assumption) | exact isI.gc (by assumption) | exact isW.gx (by assumption) | exact isW.gF (by assumption) | exact isW.gT (by assumption) (by omega) | exact isW.gS (by assumption) (by omega) | exact isW.gK (by assumption) (by omega) | exact isW.g1 (by assumption) | exact isW.g2 (by assumption) | exact isW.g3 (by assumption) | exact isI.gx (isW.i0 (by assumption)) | exact isI.gc (isW.i0 (by assumption)) | exact isI.gx (isW.i1 (by assumption)) | exact isI.gc (isW.i1 (by assumption)) | exact isI.gx (isW.i2 (by assumption)) | exact isI.gc (isW.i2 (by assumption)) | exact isI.gx (isW.i3 (by assumption)) | exact isI.gc (isW.i3 (by assumption)) | exact isI.gx (isW.i4 (by assumption)) | exact isI.gc (isW.i4 (by assumption)) | exact isI.gx (isW.i5 (by assumption)) | exact isI.gc (isW.i5 (by assumption)) | exact isR.gx (by assumption) | exact isRd.gx (by assumption) | exact isSp.gx (by assumption) | exact isI.gx (isR.i (by assumption)) | exact isI.gx (isRd.i (by assumption)) | exact isI.gc (isRd.i (by assumption)) | exact isI.gx (isSp.i (by assumption)) | exact isW.gx (isR.w (by assumption)) | exact isW.gF (isR.w (by assumption)) | fail "no such object") (by rfl) ?_
            refine r_getf (pc := 12) dX3_work_12 fX3_88 (by first | assumption | exact isI.gx (by assumption) | exact isI.gc (by assumption) | exact isW.gx (by assumption) | exact isW.gF (by assumption) | exact isW.gT (by assumption) (by omega) | exact isW.gS (by assumption) (by omega) | exact isW.gK (by assumption) (by omega) | exact isW.g1 (by assumption) | exact isW.g2 (by assumption) | exact isW.g3 (by assumption) | exact isI.gx (isW.i0 (by assumption)) | exact isI.gc (isW.i0 (by assumption)) | exact isI.gx (isW.i1 (by assumption)) | exact isI.gc (isW.i1 (by assumption)) | exact isI.gx (isW.i2 (by assumption)) | exact isI.gc (isW.i2 (by assumption)) | exact isI.gx (isW.i3 (by assumption)) | exact isI.gc (isW.i3 (by assumption)) | exact isI.gx (isW.i4 (by assumption)) | exact isI.gc (isW.i4 (by assumption)) | exact isI.gx (isW.i5 (by assumption)) | exact isI.gc (isW.i5 (by assumption)) | exact isR.gx (by assumption) | exact isRd.gx (by assumption) | exact isSp.gx (by assumption) | exact isI.gx (isR.i (by assumption)) | exact isI.gx (isRd.i (by assumption)) | exact isI.gc (isRd.i (by assumption)) | exact isI.gx (isSp.i (by assumption)) | exact isW.gx (isR.w (by assumption)) | exact isW.gF (isR.w (by assumption)) | fail "no such object") (by rfl) ?_
            refine rj_if_le (pc := 15) (tgt := 82) dX3_work_15 (by decide) (by first | exact b01_r | exact bz_r | omega | (constructor <;> omega) | apply_assumption | (apply atF_r; assumption) | fail "no range") (fun c_15 => ?_) (fun c_15 => ?_)
            · refine r_aload_n (pc := 82) dX3_work_82 rfl (by first | rfl | exact isRefV_rf _) ?_
              refine r_getf (pc := 83) dX3_work_83 fX3_23 (by first | assumption | exact isI.gx (by assumption) | exact isI.gc (by assumption) | exact isW.gx (by assumption) | exact isW.gF (by assumption) | exact isW.gT (by assumption) (by omega) | exact isW.gS (by assumption) (by omega) | exact isW.gK (by assumption) (by omega) | exact isW.g1 (by assumption) | exact isW.g2 (by assumption) | exact isW.g3 (by assumption) | exact isI.gx (isW.i0 (by assumption)) | exact isI.gc (isW.i0 (by assumption)) | exact isI.gx (isW.i1 (by assumption)) | exact isI.gc (isW.i1 (by assumption)) | exact isI.gx (isW.i2 (by assumption)) | exact isI.gc (isW.i2 (by assumption)) | exact isI.gx (isW.i3 (by assumption)) | exact isI.gc (isW.i3 (by assumption)) | exact isI.gx (isW.i4 (by assumption)) | exact isI.gc (isW.i4 (by assumption)) | exact isI.gx (isW.i5 (by assumption)) | exact isI.gc (isW.i5 (by assumption)) | exact isR.gx (by assumption) | exact isRd.gx (by assumption) | exact isSp.gx (by assumption) | exact isI.gx (isR.i (by assumption)) | exact isI.gx (isRd.i (by assumption)) | exact isI.gc (isRd.i (by assumption)) | exact isI.gx (isSp.i (by assumption)) | exact isW.gx (isR.w (by assumption)) | exact isW.gF (isR.w (by assumption)) | fail "no such object") (by rfl) ?_
              refine rj_iconst (pc := 86) dX3_work_86 ?_
              refine rc_putz (pc := 87) dX3_work_87 fX3_88 (by first | assumption | exact isW.i0 (by assumption) | exact isW.i1 (by assumption) | exact isW.i2 (by assumption) | exact isW.i3 (by assumption) | exact isW.i4 (by assumption) | exact isW.i5 (by assumption) | exact isR.i (by assumption) | exact isRd.i (by assumption) | exact isSp.i (by assumption) | fail "no such row") (fun h_87 hI_87 hS_87 => ?_)
              refine r_return (pc := 90) dX3_work_90 rfl ?_
              exact ⟨rfl, hR_65.ofI hS_87 hI_87, S_65.trans (hS_87.mono (fun q hq => i_rBlk hq))⟩
            · exfalso
              first | omega | exact absurd trivial ‹¬ True›
      · exfalso
        first | omega | exact absurd trivial ‹¬ True›
set_option maxHeartbeats 4000000 in
set_option maxRecDepth 100000 in
theorem cr_beginTurn0 {G : mG} {l : Launch} (d : Nat) {h : mH} {r : Nat} {b z : Int} {f : Nat → Int} {c : Nat → Int} {C : Nat → Nat → Int} {nm : Nat → Int64} {g : Nat → Option Nat} (hR : isR h r b z f c C nm g) (hc : ∀ q, InR (c q)) (hz : InR z) (h2 : c 2 = 0) : RUNM G l (d + 2) mX3_beginTurn [.ref r] h (fun v h' => v = some (.int (J (-5))) ∧ h' = h) := by
  refine RUNM.of (by decide +kernel) (Nat.le_of_ble_eq_true rfl) ?_
  refine r_aload_n (pc := 0) dX3_beginTurn_0 rfl (by first | rfl | exact isRefV_rf _) ?_
  refine r_getf (pc := 1) dX3_beginTurn_1 fX3_12 (by first | assumption | exact isI.gx (by assumption) | exact isI.gc (by assumption) | exact isW.gx (by assumption) | exact isW.gF (by assumption) | exact isW.gT (by assumption) (by omega) | exact isW.gS (by assumption) (by omega) | exact isW.gK (by assumption) (by omega) | exact isW.g1 (by assumption) | exact isW.g2 (by assumption) | exact isW.g3 (by assumption) | exact isI.gx (isW.i0 (by assumption)) | exact isI.gc (isW.i0 (by assumption)) | exact isI.gx (isW.i1 (by assumption)) | exact isI.gc (isW.i1 (by assumption)) | exact isI.gx (isW.i2 (by assumption)) | exact isI.gc (isW.i2 (by assumption)) | exact isI.gx (isW.i3 (by assumption)) | exact isI.gc (isW.i3 (by assumption)) | exact isI.gx (isW.i4 (by assumption)) | exact isI.gc (isW.i4 (by assumption)) | exact isI.gx (isW.i5 (by assumption)) | exact isI.gc (isW.i5 (by assumption)) | exact isR.gx (by assumption) | exact isRd.gx (by assumption) | exact isSp.gx (by assumption) | exact isI.gx (isR.i (by assumption)) | exact isI.gx (isRd.i (by assumption)) | exact isI.gc (isRd.i (by assumption)) | exact isI.gx (isSp.i (by assumption)) | exact isW.gx (isR.w (by assumption)) | exact isW.gF (isR.w (by assumption)) | fail "no such object") (by rfl) ?_
  refine rj_iconst (pc := 4) dX3_beginTurn_4 ?_
  refine r_callV1 (pc := 5) dX3_beginTurn_5 qX9_readyAtPlace kX3_54 vX9_readyAtPlace (by first | assumption | exact isI.gx (by assumption) | exact isI.gc (by assumption) | exact isW.gx (by assumption) | exact isW.gF (by assumption) | exact isW.gT (by assumption) (by omega) | exact isW.gS (by assumption) (by omega) | exact isW.gK (by assumption) (by omega) | exact isW.g1 (by assumption) | exact isW.g2 (by assumption) | exact isW.g3 (by assumption) | exact isI.gx (isW.i0 (by assumption)) | exact isI.gc (isW.i0 (by assumption)) | exact isI.gx (isW.i1 (by assumption)) | exact isI.gc (isW.i1 (by assumption)) | exact isI.gx (isW.i2 (by assumption)) | exact isI.gc (isW.i2 (by assumption)) | exact isI.gx (isW.i3 (by assumption)) | exact isI.gc (isW.i3 (by assumption)) | exact isI.gx (isW.i4 (by assumption)) | exact isI.gc (isW.i4 (by assumption)) | exact isI.gx (isW.i5 (by assumption)) | exact isI.gc (isW.i5 (by assumption)) | exact isR.gx (by assumption) | exact isRd.gx (by assumption) | exact isSp.gx (by assumption) | exact isI.gx (isR.i (by assumption)) | exact isI.gx (isRd.i (by assumption)) | exact isI.gc (isRd.i (by assumption)) | exact isI.gx (isSp.i (by assumption)) | exact isW.gx (isR.w (by assumption)) | exact isW.gF (isR.w (by assumption)) | fail "no such object") rfl rfl (Nat.le_of_ble_eq_true rfl) (c0_readyAtPlace _ hR.w hc h2 0) (fun v_5 h_5 q_5 => ?_)
  obtain ⟨rfl, rfl⟩ := q_5
  refine r_istore_n (pc := 8) dX3_beginTurn_8 (Nat.le_of_ble_eq_true rfl) ?_
  dsimp only [lsSt, List.set, mLs, mEnt]
  refine r_aload_n (pc := 9) dX3_beginTurn_9 rfl (by first | rfl | exact isRefV_rf _) ?_
  refine r_getf (pc := 10) dX3_beginTurn_10 fX3_12 (by first | assumption | exact isI.gx (by assumption) | exact isI.gc (by assumption) | exact isW.gx (by assumption) | exact isW.gF (by assumption) | exact isW.gT (by assumption) (by omega) | exact isW.gS (by assumption) (by omega) | exact isW.gK (by assumption) (by omega) | exact isW.g1 (by assumption) | exact isW.g2 (by assumption) | exact isW.g3 (by assumption) | exact isI.gx (isW.i0 (by assumption)) | exact isI.gc (isW.i0 (by assumption)) | exact isI.gx (isW.i1 (by assumption)) | exact isI.gc (isW.i1 (by assumption)) | exact isI.gx (isW.i2 (by assumption)) | exact isI.gc (isW.i2 (by assumption)) | exact isI.gx (isW.i3 (by assumption)) | exact isI.gc (isW.i3 (by assumption)) | exact isI.gx (isW.i4 (by assumption)) | exact isI.gc (isW.i4 (by assumption)) | exact isI.gx (isW.i5 (by assumption)) | exact isI.gc (isW.i5 (by assumption)) | exact isR.gx (by assumption) | exact isRd.gx (by assumption) | exact isSp.gx (by assumption) | exact isI.gx (isR.i (by assumption)) | exact isI.gx (isRd.i (by assumption)) | exact isI.gc (isRd.i (by assumption)) | exact isI.gx (isSp.i (by assumption)) | exact isW.gx (isR.w (by assumption)) | exact isW.gF (isR.w (by assumption)) | fail "no such object") (by rfl) ?_
  refine r_iload_n (pc := 13) dX3_beginTurn_13 rfl ?_
  refine r_callV1 (pc := 14) dX3_beginTurn_14 qX9_taskAt kX3_57 vX9_taskAt (by first | assumption | exact isI.gx (by assumption) | exact isI.gc (by assumption) | exact isW.gx (by assumption) | exact isW.gF (by assumption) | exact isW.gT (by assumption) (by omega) | exact isW.gS (by assumption) (by omega) | exact isW.gK (by assumption) (by omega) | exact isW.g1 (by assumption) | exact isW.g2 (by assumption) | exact isW.g3 (by assumption) | exact isI.gx (isW.i0 (by assumption)) | exact isI.gc (isW.i0 (by assumption)) | exact isI.gx (isW.i1 (by assumption)) | exact isI.gc (isW.i1 (by assumption)) | exact isI.gx (isW.i2 (by assumption)) | exact isI.gc (isW.i2 (by assumption)) | exact isI.gx (isW.i3 (by assumption)) | exact isI.gc (isW.i3 (by assumption)) | exact isI.gx (isW.i4 (by assumption)) | exact isI.gc (isW.i4 (by assumption)) | exact isI.gx (isW.i5 (by assumption)) | exact isI.gc (isW.i5 (by assumption)) | exact isR.gx (by assumption) | exact isRd.gx (by assumption) | exact isSp.gx (by assumption) | exact isI.gx (isR.i (by assumption)) | exact isI.gx (isRd.i (by assumption)) | exact isI.gc (isRd.i (by assumption)) | exact isI.gx (isSp.i (by assumption)) | exact isW.gx (isR.w (by assumption)) | exact isW.gF (isR.w (by assumption)) | fail "no such object") rfl rfl (Nat.le_of_ble_eq_true rfl) (cw_taskAt _ hR.w hc (i := -5) (by decide)) (fun v_14 h_14 q_14 => ?_)
  obtain ⟨q1_14, rfl⟩ := q_14
  · obtain rfl := tkAt_N (by omega) q1_14
    refine r_astore_n (pc := 17) dX3_beginTurn_17 (Nat.le_of_ble_eq_true rfl) (by first | rfl | exact isRefV_rf _) ?_
    dsimp only [lsSt, List.set, mLs, mEnt]
    refine r_aload_n (pc := 18) dX3_beginTurn_18 rfl (by first | rfl | exact isRefV_rf _) ?_
    refine r_ifnonnull (pc := 19) (tgt := 25) dX3_beginTurn_19 (by decide) (by first | rfl | exact isRefV_rf _) (fun a_19 c_19 => by cases c_19) (fun c_19 => ?_)
    refine rj_bipush (pc := 22) dX3_beginTurn_22 (by decide +kernel) ?_
    refine r_ireturn (pc := 24) .int dX3_beginTurn_24 rfl (by first | rfl | assumption) ?_
    exact ⟨rfl, rfl⟩
set_option maxHeartbeats 4000000 in
set_option maxRecDepth 100000 in
theorem cr_tickUpTo0 {G : mG} {l : Launch} (d : Nat) {h : mH} {r : Nat} {b z : Int} {f : Nat → Int} {c : Nat → Int} {C : Nat → Nat → Int} {nm : Nat → Int64} {g : Nat → Option Nat} (hR : isR h r b z f c C nm g) (hc : ∀ q, InR (c q)) (hz : InR z) (h2 : c 2 = 0) {i : Int} (hi : InR i) : RUNM G l (d + 3) mX3_tickUpTo [.ref r, .int (J i)] h (fun v h' => v = some (.int (J 0)) ∧ h' = h) := by
  refine RUNM.of (by decide +kernel) (Nat.le_of_ble_eq_true rfl) ?_
  refine rj_iconst (pc := 0) dX3_tickUpTo_0 ?_
  refine r_istore_n (pc := 1) dX3_tickUpTo_1 (Nat.le_of_ble_eq_true rfl) ?_
  dsimp only [lsSt, List.set, mLs, mEnt]
  refine r_iload_n (pc := 2) dX3_tickUpTo_2 rfl ?_
  refine r_iload_n (pc := 3) dX3_tickUpTo_3 rfl ?_
  refine rj_icmp_ge (pc := 4) (tgt := 24) dX3_tickUpTo_4 (by decide) (by first | exact b01_r | exact bz_r | omega | (constructor <;> omega) | apply_assumption | (apply atF_r; assumption) | fail "no range") (by first | exact b01_r | exact bz_r | omega | (constructor <;> omega) | apply_assumption | (apply atF_r; assumption) | fail "no range") (fun c_4 => ?_) (fun c_4 => ?_)
  · refine r_iload_n (pc := 24) dX3_tickUpTo_24 rfl ?_
    refine r_ireturn (pc := 25) .int dX3_tickUpTo_25 rfl (by first | rfl | assumption) ?_
    exact ⟨rfl, rfl⟩
  · refine r_aload_n (pc := 7) dX3_tickUpTo_7 rfl (by first | rfl | exact isRefV_rf _) ?_
    refine r_callV0 (pc := 8) dX3_tickUpTo_8 qX3_beginTurn kX3_50 vX3_beginTurn (by first | assumption | exact isI.gx (by assumption) | exact isI.gc (by assumption) | exact isW.gx (by assumption) | exact isW.gF (by assumption) | exact isW.gT (by assumption) (by omega) | exact isW.gS (by assumption) (by omega) | exact isW.gK (by assumption) (by omega) | exact isW.g1 (by assumption) | exact isW.g2 (by assumption) | exact isW.g3 (by assumption) | exact isI.gx (isW.i0 (by assumption)) | exact isI.gc (isW.i0 (by assumption)) | exact isI.gx (isW.i1 (by assumption)) | exact isI.gc (isW.i1 (by assumption)) | exact isI.gx (isW.i2 (by assumption)) | exact isI.gc (isW.i2 (by assumption)) | exact isI.gx (isW.i3 (by assumption)) | exact isI.gc (isW.i3 (by assumption)) | exact isI.gx (isW.i4 (by assumption)) | exact isI.gc (isW.i4 (by assumption)) | exact isI.gx (isW.i5 (by assumption)) | exact isI.gc (isW.i5 (by assumption)) | exact isR.gx (by assumption) | exact isRd.gx (by assumption) | exact isSp.gx (by assumption) | exact isI.gx (isR.i (by assumption)) | exact isI.gx (isRd.i (by assumption)) | exact isI.gc (isRd.i (by assumption)) | exact isI.gx (isSp.i (by assumption)) | exact isW.gx (isR.w (by assumption)) | exact isW.gF (isR.w (by assumption)) | fail "no such object") rfl rfl (Nat.le_of_ble_eq_true rfl) (cr_beginTurn0 _ hR hc hz h2) (fun v_8 h_8 q_8 => ?_)
    obtain ⟨rfl, rfl⟩ := q_8
    refine rj_if_lt (pc := 11) (tgt := 24) dX3_tickUpTo_11 (by decide) (by first | exact b01_r | exact bz_r | omega | (constructor <;> omega) | apply_assumption | (apply atF_r; assumption) | fail "no range") (fun c_11 => ?_) (fun c_11 => ?_)
    · refine r_iload_n (pc := 24) dX3_tickUpTo_24 rfl ?_
      refine r_ireturn (pc := 25) .int dX3_tickUpTo_25 rfl (by first | rfl | assumption) ?_
      exact ⟨rfl, rfl⟩
    · exfalso
      first | omega | exact absurd trivial ‹¬ True›
set_option maxHeartbeats 4000000 in
set_option maxRecDepth 100000 in
theorem cr_tickOnce0 {G : mG} {l : Launch} (d : Nat) {h : mH} {r : Nat} {b : Int} {f : Nat → Int} {c : Nat → Int} {C : Nat → Nat → Int} {nm : Nat → Int64} {g : Nat → Option Nat} (hR : isR h r b 0 f c C nm g) (hc : ∀ q, InR (c q)) (h2 : c 2 = 0) : RUNM G l (d + 5) mX3_tickOnce [.ref r] h (fun v h' => v = some (.int (J (-5))) ∧ isR h' r b 0 f c C nm g ∧ Same (rBlk r) h h') := by
  refine RUNM.of (by decide +kernel) (Nat.le_of_ble_eq_true rfl) ?_
  refine r_aload_n (pc := 0) dX3_tickOnce_0 rfl (by first | rfl | exact isRefV_rf _) ?_
  refine r_callV0 (pc := 1) dX3_tickOnce_1 qX3_beginTurn kX3_50 vX3_beginTurn (by first | assumption | exact isI.gx (by assumption) | exact isI.gc (by assumption) | exact isW.gx (by assumption) | exact isW.gF (by assumption) | exact isW.gT (by assumption) (by omega) | exact isW.gS (by assumption) (by omega) | exact isW.gK (by assumption) (by omega) | exact isW.g1 (by assumption) | exact isW.g2 (by assumption) | exact isW.g3 (by assumption) | exact isI.gx (isW.i0 (by assumption)) | exact isI.gc (isW.i0 (by assumption)) | exact isI.gx (isW.i1 (by assumption)) | exact isI.gc (isW.i1 (by assumption)) | exact isI.gx (isW.i2 (by assumption)) | exact isI.gc (isW.i2 (by assumption)) | exact isI.gx (isW.i3 (by assumption)) | exact isI.gc (isW.i3 (by assumption)) | exact isI.gx (isW.i4 (by assumption)) | exact isI.gc (isW.i4 (by assumption)) | exact isI.gx (isW.i5 (by assumption)) | exact isI.gc (isW.i5 (by assumption)) | exact isR.gx (by assumption) | exact isRd.gx (by assumption) | exact isSp.gx (by assumption) | exact isI.gx (isR.i (by assumption)) | exact isI.gx (isRd.i (by assumption)) | exact isI.gc (isRd.i (by assumption)) | exact isI.gx (isSp.i (by assumption)) | exact isW.gx (isR.w (by assumption)) | exact isW.gF (isR.w (by assumption)) | fail "no such object") rfl rfl (Nat.le_of_ble_eq_true rfl) (cr_beginTurn0 _ hR hc (by decide) h2) (fun v_1 h_1 q_1 => ?_)
  obtain ⟨rfl, rfl⟩ := q_1
  refine r_istore_n (pc := 4) dX3_tickOnce_4 (Nat.le_of_ble_eq_true rfl) ?_
  dsimp only [lsSt, List.set, mLs, mEnt]
  refine r_aload_n (pc := 5) dX3_tickOnce_5 rfl (by first | rfl | exact isRefV_rf _) ?_
  refine r_callV0 (pc := 6) dX3_tickOnce_6 qX3_work kX3_43 vX3_work (by first | assumption | exact isI.gx (by assumption) | exact isI.gc (by assumption) | exact isW.gx (by assumption) | exact isW.gF (by assumption) | exact isW.gT (by assumption) (by omega) | exact isW.gS (by assumption) (by omega) | exact isW.gK (by assumption) (by omega) | exact isW.g1 (by assumption) | exact isW.g2 (by assumption) | exact isW.g3 (by assumption) | exact isI.gx (isW.i0 (by assumption)) | exact isI.gc (isW.i0 (by assumption)) | exact isI.gx (isW.i1 (by assumption)) | exact isI.gc (isW.i1 (by assumption)) | exact isI.gx (isW.i2 (by assumption)) | exact isI.gc (isW.i2 (by assumption)) | exact isI.gx (isW.i3 (by assumption)) | exact isI.gc (isW.i3 (by assumption)) | exact isI.gx (isW.i4 (by assumption)) | exact isI.gc (isW.i4 (by assumption)) | exact isI.gx (isW.i5 (by assumption)) | exact isI.gc (isW.i5 (by assumption)) | exact isR.gx (by assumption) | exact isRd.gx (by assumption) | exact isSp.gx (by assumption) | exact isI.gx (isR.i (by assumption)) | exact isI.gx (isRd.i (by assumption)) | exact isI.gc (isRd.i (by assumption)) | exact isI.gx (isSp.i (by assumption)) | exact isW.gx (isR.w (by assumption)) | exact isW.gF (isR.w (by assumption)) | fail "no such object") rfl rfl (Nat.le_of_ble_eq_true rfl) (cr_work0 _ hR) (fun v_6 h_6 q_6 => ?_)
  obtain ⟨rfl, hR_6, S_6⟩ := q_6
  refine r_iload_n (pc := 9) dX3_tickOnce_9 rfl ?_
  refine r_ireturn (pc := 10) .int dX3_tickOnce_10 rfl (by first | rfl | assumption) ?_
  exact ⟨rfl, hR_6, S_6⟩
set_option maxHeartbeats 4000000 in
set_option maxRecDepth 100000 in
theorem cr_endInCall0 {G : mG} {l : Launch} (d : Nat) {h : mH} {r : Nat} {b : Int} {f : Nat → Int} {c : Nat → Int} {C : Nat → Nat → Int} {nm : Nat → Int64} {g : Nat → Option Nat} (hR : isR h r b 0 f c C nm g) (hc : ∀ q, InR (c q)) (hC : ∀ k q, InR (C k q)) (h1 : c 1 = 1) (h2 : c 2 = 0) (h10 : c 10 = 0) (h11 : c 11 = 0) : RUNM G l (d + 6) mX3_endInCall [.ref r, .int (J 100)] h (fun v h' => v = some (.int (J 0)) ∧ (∃ f' c' C', isR h' r (-1) 0 f' c' C' nm g ∧ (∀ q, InR (c' q)) ∧ (∀ k, k < 300 → k ≠ 4 → k ≠ 10 → c' k = c k) ∧ c' 4 = 0) ∧ Same (rBlk r) h h') := by
  refine RUNM.of (by decide +kernel) (Nat.le_of_ble_eq_true rfl) ?_
  refine r_aload_n (pc := 0) dX3_endInCall_0 rfl (by first | rfl | exact isRefV_rf _) ?_
  refine rj_iconst (pc := 1) dX3_endInCall_1 ?_
  refine rc_putR (pc := 2) dX3_endInCall_2 fX3_27 (by assumption) (fun h_2 hW_2 hS_2 => ?_)
  have hR_2 := hW_2
  refine r_aload_n (pc := 5) dX3_endInCall_5 rfl (by first | rfl | exact isRefV_rf _) ?_
  refine r_getf (pc := 6) dX3_endInCall_6 fX3_12 (by first | assumption | exact isI.gx (by assumption) | exact isI.gc (by assumption) | exact isW.gx (by assumption) | exact isW.gF (by assumption) | exact isW.gT (by assumption) (by omega) | exact isW.gS (by assumption) (by omega) | exact isW.gK (by assumption) (by omega) | exact isW.g1 (by assumption) | exact isW.g2 (by assumption) | exact isW.g3 (by assumption) | exact isI.gx (isW.i0 (by assumption)) | exact isI.gc (isW.i0 (by assumption)) | exact isI.gx (isW.i1 (by assumption)) | exact isI.gc (isW.i1 (by assumption)) | exact isI.gx (isW.i2 (by assumption)) | exact isI.gc (isW.i2 (by assumption)) | exact isI.gx (isW.i3 (by assumption)) | exact isI.gc (isW.i3 (by assumption)) | exact isI.gx (isW.i4 (by assumption)) | exact isI.gc (isW.i4 (by assumption)) | exact isI.gx (isW.i5 (by assumption)) | exact isI.gc (isW.i5 (by assumption)) | exact isR.gx (by assumption) | exact isRd.gx (by assumption) | exact isSp.gx (by assumption) | exact isI.gx (isR.i (by assumption)) | exact isI.gx (isRd.i (by assumption)) | exact isI.gc (isRd.i (by assumption)) | exact isI.gx (isSp.i (by assumption)) | exact isW.gx (isR.w (by assumption)) | exact isW.gF (isR.w (by assumption)) | fail "no such object") (by rfl) ?_
  refine r_getf (pc := 9) dX3_endInCall_9 fX3_31 (by first | assumption | exact isI.gx (by assumption) | exact isI.gc (by assumption) | exact isW.gx (by assumption) | exact isW.gF (by assumption) | exact isW.gT (by assumption) (by omega) | exact isW.gS (by assumption) (by omega) | exact isW.gK (by assumption) (by omega) | exact isW.g1 (by assumption) | exact isW.g2 (by assumption) | exact isW.g3 (by assumption) | exact isI.gx (isW.i0 (by assumption)) | exact isI.gc (isW.i0 (by assumption)) | exact isI.gx (isW.i1 (by assumption)) | exact isI.gc (isW.i1 (by assumption)) | exact isI.gx (isW.i2 (by assumption)) | exact isI.gc (isW.i2 (by assumption)) | exact isI.gx (isW.i3 (by assumption)) | exact isI.gc (isW.i3 (by assumption)) | exact isI.gx (isW.i4 (by assumption)) | exact isI.gc (isW.i4 (by assumption)) | exact isI.gx (isW.i5 (by assumption)) | exact isI.gc (isW.i5 (by assumption)) | exact isR.gx (by assumption) | exact isRd.gx (by assumption) | exact isSp.gx (by assumption) | exact isI.gx (isR.i (by assumption)) | exact isI.gx (isRd.i (by assumption)) | exact isI.gc (isRd.i (by assumption)) | exact isI.gx (isSp.i (by assumption)) | exact isW.gx (isR.w (by assumption)) | exact isW.gF (isR.w (by assumption)) | fail "no such object") (by rfl) ?_
  refine r_callV0 (pc := 12) dX3_endInCall_12 qX0_beginCall kX3_35 vX0_beginCall (by first | assumption | exact isI.gx (by assumption) | exact isI.gc (by assumption) | exact isW.gx (by assumption) | exact isW.gF (by assumption) | exact isW.gT (by assumption) (by omega) | exact isW.gS (by assumption) (by omega) | exact isW.gK (by assumption) (by omega) | exact isW.g1 (by assumption) | exact isW.g2 (by assumption) | exact isW.g3 (by assumption) | exact isI.gx (isW.i0 (by assumption)) | exact isI.gc (isW.i0 (by assumption)) | exact isI.gx (isW.i1 (by assumption)) | exact isI.gc (isW.i1 (by assumption)) | exact isI.gx (isW.i2 (by assumption)) | exact isI.gc (isW.i2 (by assumption)) | exact isI.gx (isW.i3 (by assumption)) | exact isI.gc (isW.i3 (by assumption)) | exact isI.gx (isW.i4 (by assumption)) | exact isI.gc (isW.i4 (by assumption)) | exact isI.gx (isW.i5 (by assumption)) | exact isI.gc (isW.i5 (by assumption)) | exact isR.gx (by assumption) | exact isRd.gx (by assumption) | exact isSp.gx (by assumption) | exact isI.gx (isR.i (by assumption)) | exact isI.gx (isRd.i (by assumption)) | exact isI.gc (isRd.i (by assumption)) | exact isI.gx (isSp.i (by assumption)) | exact isW.gx (isR.w (by assumption)) | exact isW.gF (isR.w (by assumption)) | fail "no such object") rfl rfl (Nat.le_of_ble_eq_true rfl) (cw_beginCall _ hR_2.w hc) (fun v_12 h_12 q_12 => ?_)
  obtain ⟨rfl, hW_12, S_12⟩ := q_12
  have hR_12 := hR_2.ofW S_12 hW_12
  have hc4 := updI_r hc (k := 4) (hc 11)
  have e1 : updI c 4 (c 11) 1 = 1 := (updI_n (by omega)).trans h1
  have e10 : updI c 4 (c 11) 10 = 0 := (updI_n (by omega)).trans h10
  have hc5 := updI_r hc4 (k := 304 + 3 * (100 - 100 : Int).toNat) (v := 2) (by decide)
  have hc6 := updI_r (updI_r hc5 (k := 304 + 3 * 0) (v := 0) (by decide)) (k := 8 + 2) (v := 0) (by decide)
  refine r_aload_n (pc := 15) dX3_endInCall_15 rfl (by first | rfl | exact isRefV_rf _) ?_
  refine r_iload_n (pc := 16) dX3_endInCall_16 rfl ?_
  refine r_callV1 (pc := 17) dX3_endInCall_17 qX3_beginToEnd kX3_40 vX3_beginToEnd (by first | assumption | exact isI.gx (by assumption) | exact isI.gc (by assumption) | exact isW.gx (by assumption) | exact isW.gF (by assumption) | exact isW.gT (by assumption) (by omega) | exact isW.gS (by assumption) (by omega) | exact isW.gK (by assumption) (by omega) | exact isW.g1 (by assumption) | exact isW.g2 (by assumption) | exact isW.g3 (by assumption) | exact isI.gx (isW.i0 (by assumption)) | exact isI.gc (isW.i0 (by assumption)) | exact isI.gx (isW.i1 (by assumption)) | exact isI.gc (isW.i1 (by assumption)) | exact isI.gx (isW.i2 (by assumption)) | exact isI.gc (isW.i2 (by assumption)) | exact isI.gx (isW.i3 (by assumption)) | exact isI.gc (isW.i3 (by assumption)) | exact isI.gx (isW.i4 (by assumption)) | exact isI.gc (isW.i4 (by assumption)) | exact isI.gx (isW.i5 (by assumption)) | exact isI.gc (isW.i5 (by assumption)) | exact isR.gx (by assumption) | exact isRd.gx (by assumption) | exact isSp.gx (by assumption) | exact isI.gx (isR.i (by assumption)) | exact isI.gx (isRd.i (by assumption)) | exact isI.gc (isRd.i (by assumption)) | exact isI.gx (isSp.i (by assumption)) | exact isW.gx (isR.w (by assumption)) | exact isW.gF (isR.w (by assumption)) | fail "no such object") rfl rfl (Nat.le_of_ble_eq_true rfl) (cr_beginToEndS _ hR_12 hc4 (by decide) (by decide) (i := 100) (by decide) ⟨by omega, by rw [e1]; omega, by omega⟩) (fun v_17 h_17 q_17 => ?_)
  obtain ⟨rfl, hR_17, S_17⟩ := q_17
  refine r_aload_n (pc := 20) dX3_endInCall_20 rfl (by first | rfl | exact isRefV_rf _) ?_
  refine r_callV0 (pc := 21) dX3_endInCall_21 qX3_work kX3_43 vX3_work (by first | assumption | exact isI.gx (by assumption) | exact isI.gc (by assumption) | exact isW.gx (by assumption) | exact isW.gF (by assumption) | exact isW.gT (by assumption) (by omega) | exact isW.gS (by assumption) (by omega) | exact isW.gK (by assumption) (by omega) | exact isW.g1 (by assumption) | exact isW.g2 (by assumption) | exact isW.g3 (by assumption) | exact isI.gx (isW.i0 (by assumption)) | exact isI.gc (isW.i0 (by assumption)) | exact isI.gx (isW.i1 (by assumption)) | exact isI.gc (isW.i1 (by assumption)) | exact isI.gx (isW.i2 (by assumption)) | exact isI.gc (isW.i2 (by assumption)) | exact isI.gx (isW.i3 (by assumption)) | exact isI.gc (isW.i3 (by assumption)) | exact isI.gx (isW.i4 (by assumption)) | exact isI.gc (isW.i4 (by assumption)) | exact isI.gx (isW.i5 (by assumption)) | exact isI.gc (isW.i5 (by assumption)) | exact isR.gx (by assumption) | exact isRd.gx (by assumption) | exact isSp.gx (by assumption) | exact isI.gx (isR.i (by assumption)) | exact isI.gx (isRd.i (by assumption)) | exact isI.gc (isRd.i (by assumption)) | exact isI.gx (isSp.i (by assumption)) | exact isW.gx (isR.w (by assumption)) | exact isW.gF (isR.w (by assumption)) | fail "no such object") rfl rfl (Nat.le_of_ble_eq_true rfl) (cr_work1 _ hR_17 hc5 hC (updI_s) ((updI_n (by omega)).trans e1) ((updI_n (by omega)).trans e10)) (fun v_21 h_21 q_21 => ?_)
  obtain ⟨rfl, hR_21, S_21⟩ := q_21
  have zz : ∀ k, k < 300 → k ≠ 4 → k ≠ 10 → updI (updI (updI (updI c 4 (c 11)) (304 + 3 * (100 - 100 : Int).toNat) 2) (304 + 3 * 0) 0) (8 + 2) 0 k = c k := fun k k1 k2 k3 => by rw [updI_n (by omega), updI_n (by omega), updI_n (by omega), updI_n (by omega)]
  have z2 := (zz 2 (by omega) (by omega) (by omega)).trans h2
  have z11 := (zz 11 (by omega) (by omega) (by omega)).trans h11
  have z4 : updI (updI (updI (updI c 4 (c 11)) (304 + 3 * (100 - 100 : Int).toNat) 2) (304 + 3 * 0) 0) (8 + 2) 0 4 = 0 := by rw [updI_n (by omega), updI_n (by omega), updI_n (by omega), updI_s]; exact h11
  refine r_aload_n (pc := 24) dX3_endInCall_24 rfl (by first | rfl | exact isRefV_rf _) ?_
  refine r_getf (pc := 25) dX3_endInCall_25 fX3_12 (by first | assumption | exact isI.gx (by assumption) | exact isI.gc (by assumption) | exact isW.gx (by assumption) | exact isW.gF (by assumption) | exact isW.gT (by assumption) (by omega) | exact isW.gS (by assumption) (by omega) | exact isW.gK (by assumption) (by omega) | exact isW.g1 (by assumption) | exact isW.g2 (by assumption) | exact isW.g3 (by assumption) | exact isI.gx (isW.i0 (by assumption)) | exact isI.gc (isW.i0 (by assumption)) | exact isI.gx (isW.i1 (by assumption)) | exact isI.gc (isW.i1 (by assumption)) | exact isI.gx (isW.i2 (by assumption)) | exact isI.gc (isW.i2 (by assumption)) | exact isI.gx (isW.i3 (by assumption)) | exact isI.gc (isW.i3 (by assumption)) | exact isI.gx (isW.i4 (by assumption)) | exact isI.gc (isW.i4 (by assumption)) | exact isI.gx (isW.i5 (by assumption)) | exact isI.gc (isW.i5 (by assumption)) | exact isR.gx (by assumption) | exact isRd.gx (by assumption) | exact isSp.gx (by assumption) | exact isI.gx (isR.i (by assumption)) | exact isI.gx (isRd.i (by assumption)) | exact isI.gc (isRd.i (by assumption)) | exact isI.gx (isSp.i (by assumption)) | exact isW.gx (isR.w (by assumption)) | exact isW.gF (isR.w (by assumption)) | fail "no such object") (by rfl) ?_
  refine rj_iconst (pc := 28) dX3_endInCall_28 ?_
  refine r_callV1 (pc := 29) dX3_endInCall_29 qX9_faultCount kX3_46 vX9_faultCount (by first | assumption | exact isI.gx (by assumption) | exact isI.gc (by assumption) | exact isW.gx (by assumption) | exact isW.gF (by assumption) | exact isW.gT (by assumption) (by omega) | exact isW.gS (by assumption) (by omega) | exact isW.gK (by assumption) (by omega) | exact isW.g1 (by assumption) | exact isW.g2 (by assumption) | exact isW.g3 (by assumption) | exact isI.gx (isW.i0 (by assumption)) | exact isI.gc (isW.i0 (by assumption)) | exact isI.gx (isW.i1 (by assumption)) | exact isI.gc (isW.i1 (by assumption)) | exact isI.gx (isW.i2 (by assumption)) | exact isI.gc (isW.i2 (by assumption)) | exact isI.gx (isW.i3 (by assumption)) | exact isI.gc (isW.i3 (by assumption)) | exact isI.gx (isW.i4 (by assumption)) | exact isI.gc (isW.i4 (by assumption)) | exact isI.gx (isW.i5 (by assumption)) | exact isI.gc (isW.i5 (by assumption)) | exact isR.gx (by assumption) | exact isRd.gx (by assumption) | exact isSp.gx (by assumption) | exact isI.gx (isR.i (by assumption)) | exact isI.gx (isRd.i (by assumption)) | exact isI.gc (isRd.i (by assumption)) | exact isI.gx (isSp.i (by assumption)) | exact isW.gx (isR.w (by assumption)) | exact isW.gF (isR.w (by assumption)) | fail "no such object") rfl rfl (Nat.le_of_ble_eq_true rfl) (c0_faultCount _ hR_21.w hc6 z2 z4 z11 (i := -1) (by decide)) (fun v_29 h_29 q_29 => ?_)
  obtain ⟨rfl, rfl⟩ := q_29
  refine r_ireturn (pc := 32) .int dX3_endInCall_32 rfl (by first | rfl | assumption) ?_
  exact ⟨rfl, ⟨_, _, _, hR_21, hc6, zz, z4⟩, ((hS_2.trans (S_12.mono (fun q hq => w_rBlk hq))).trans S_17).trans S_21⟩
end mg_58
section mg_66
/-! ===== the reference: a step, by its kind ===== -/
/-- what every step may lean on -/
def mOk (m : Nat → Int) : Prop := (∀ q, InR (m q)) ∧ (0 ≤ m 0 ∧ m 0 ≤ 60) ∧ (0 ≤ m 1 ∧ m 1 ≤ 90) ∧ (0 ≤ m 2 ∧ m 2 ≤ 90) ∧ (0 ≤ m 3 ∧ m 3 ≤ 10) ∧ (0 ≤ m 4 ∧ m 4 ≤ 120) ∧ (0 ≤ m 5 ∧ m 5 ≤ 120) ∧ ∀ t : Nat, (t : Int) < m 1 → m (261 + 14 * t) ≤ 7
/-- the whole number read at a place, whose figures end after n at the latest -/
def numR (pool : Nat → Int) (p : Nat) (v : Int) : Prop := ∃ n : Nat, n ≤ 20 ∧ stopsBy pool n (if pool p = 45 then p + 1 else p) ∧ v = numAt pool n p
theorem naL_r {pool : Nat → Int} : True := trivial
set_option maxHeartbeats 4000000 in
set_option maxRecDepth 100000 in
theorem d_plus {G : mG} {l : Launch} (d : Nat) {h : mH} {x s : Nat} {f4 f6 f8 f9 f10 f11 f12 f13 f14 f16 f18 : Int} {m kp was pool tape pln pap rwd rw : Nat → Int}(hB : isM h x (mFs x f4 f6 f8 f9 f10 f11 f12 f13 f14 f16 f18 s) m kp was pool tape pln pap rwd rw) {p : Nat} (hp : p + 40 ≤ 12342) (hPo : ∀ q, InR (pool q)) (hok : mOk m) {s2 : Int} (hs : InR s2) (hk : pool p = 43) (hc : 48 ≤ pool (p + 1) ∧ pool (p + 1) ≤ 55) {n : Nat} (hn : n ≤ 20) (hst : stopsBy pool n (if pool (p + 3) = 45 then p + 3 + 1 else p + 3)) : RUNM G l (d + 2) mX11_does [.ref x, .int (J (p : Int)), .int (J s2)] h (fun v h' => v = some (.int (J 0)) ∧ isM h' x (mFs x f4 f6 f8 f9 f10 f11 f12 f13 f14 f16 f18 s) (updI m (10 + pool (p + 1) - 48).toNat (wrap (m (10 + pool (p + 1) - 48).toNat + numAt pool n (p + 3)))) kp was pool tape pln pap rwd rw ∧ Same (mBlk x) h h') := by
  obtain ⟨hM, k0, k1, k2, k3, k4, k5, k7⟩ := hok
  have hB0 := hB
  dsimp only [mFs] at hB
  have rp := hPo p
  have rc := hPo (p + 1)
  refine RUNM.of (by decide +kernel) (Nat.le_of_ble_eq_true rfl) ?_
  refine r_aload_n (pc := 0) dX11_does_0 rfl (by first | rfl | exact isRefV_rf _) ?_
  refine rm_getf (pc := 1) dX11_does_1 fX11_21 (by assumption) rfl ?_
  refine r_iload_n (pc := 4) dX11_does_4 rfl ?_
  refine rj_iald (pc := 5) (j := p) dX11_does_5 (by first | exact isM.g0 (by assumption) | exact isM.g3 (by assumption) | exact isM.g4 (by assumption) | exact isM.g8 (by assumption) | exact isM.g7 (by assumption) | exact isM.g6 (by assumption) | exact isM.g5 (by assumption) | exact isM.g1 (by assumption) | exact isM.g2 (by assumption)) (by first | assumption | exact b01_r | exact bz_r | omega | (constructor <;> omega) | exact hM _ | exact hPo _ | exact hTa _ | exact hRo _) (by first | assumption | exact b01_r | exact bz_r | omega | (constructor <;> omega) | exact hM _ | exact hPo _ | exact hTa _ | exact hRo _) (by first | assumption | exact b01_r | exact bz_r | omega | (constructor <;> omega) | exact hM _ | exact hPo _ | exact hTa _ | exact hRo _) (by omega) ?_
  refine rj_lsw (pc := 6) dX11_does_6 rfl (by first | assumption | exact b01_r | exact bz_r | omega | (constructor <;> omega) | exact hM _ | exact hPo _ | exact hTa _ | exact hRo _) (by simp only [Op.lookupswitch.offset_cons, Op.lookupswitch.offset_nil]; repeat' split; all_goals omega) (fun off_6 tgt_6 ho_6 ht_6 => ?_)
  simp only [Op.lookupswitch.offset_cons, Op.lookupswitch.offset_nil] at ho_6
  by_cases e_6_33 : (33 : Int) = pool p
  · rw [if_pos e_6_33] at ho_6
    obtain rfl : tgt_6 = 103 := by omega
    exfalso; omega
  rw [if_neg e_6_33] at ho_6
  by_cases e_6_43 : (43 : Int) = pool p
  · rw [if_pos e_6_43] at ho_6
    obtain rfl : tgt_6 = 72 := by omega
    refine r_aload_n (pc := 72) dX11_does_72 rfl (by first | rfl | exact isRefV_rf _) ?_
    refine rm_getf (pc := 73) dX11_does_73 fX11_11 (by assumption) rfl ?_
    refine rj_bipush (pc := 76) dX11_does_76 (by decide +kernel) ?_
    refine r_aload_n (pc := 78) dX11_does_78 rfl (by first | rfl | exact isRefV_rf _) ?_
    refine rm_getf (pc := 79) dX11_does_79 fX11_21 (by assumption) rfl ?_
    refine r_iload_n (pc := 82) dX11_does_82 rfl ?_
    refine rj_iconst (pc := 83) dX11_does_83 ?_
    refine rj_iadd (pc := 84) dX11_does_84 ?_
    refine rj_iald (pc := 85) (j := p + 1) dX11_does_85 (by first | exact isM.g0 (by assumption) | exact isM.g3 (by assumption) | exact isM.g4 (by assumption) | exact isM.g8 (by assumption) | exact isM.g7 (by assumption) | exact isM.g6 (by assumption) | exact isM.g5 (by assumption) | exact isM.g1 (by assumption) | exact isM.g2 (by assumption)) (by first | assumption | exact b01_r | exact bz_r | omega | (constructor <;> omega) | exact hM _ | exact hPo _ | exact hTa _ | exact hRo _) (by first | assumption | exact b01_r | exact bz_r | omega | (constructor <;> omega) | exact hM _ | exact hPo _ | exact hTa _ | exact hRo _) (by first | assumption | exact b01_r | exact bz_r | omega | (constructor <;> omega) | exact hM _ | exact hPo _ | exact hTa _ | exact hRo _) (by omega) ?_
    refine rj_iadd (pc := 86) dX11_does_86 ?_
    refine rj_bipush (pc := 87) dX11_does_87 (by decide +kernel) ?_
    refine rj_isub (pc := 89) dX11_does_89 ?_
    refine r_dup2 (pc := 90) dX11_does_90 rfl rfl ?_
    refine rj_iald (pc := 91) (j := (10 + pool (p + 1) - 48).toNat) dX11_does_91 (by first | exact isM.g0 (by assumption) | exact isM.g3 (by assumption) | exact isM.g4 (by assumption) | exact isM.g8 (by assumption) | exact isM.g7 (by assumption) | exact isM.g6 (by assumption) | exact isM.g5 (by assumption) | exact isM.g1 (by assumption) | exact isM.g2 (by assumption)) (by first | assumption | exact b01_r | exact bz_r | omega | (constructor <;> omega) | exact hM _ | exact hPo _ | exact hTa _ | exact hRo _) (by first | assumption | exact b01_r | exact bz_r | omega | (constructor <;> omega) | exact hM _ | exact hPo _ | exact hTa _ | exact hRo _) (by first | assumption | exact b01_r | exact bz_r | omega | (constructor <;> omega) | exact hM _ | exact hPo _ | exact hTa _ | exact hRo _) (by omega) ?_
    refine r_aload_n (pc := 92) dX11_does_92 rfl (by first | rfl | exact isRefV_rf _) ?_
    refine r_iload_n (pc := 93) dX11_does_93 rfl ?_
    refine rj_iconst (pc := 94) dX11_does_94 ?_
    refine rj_iadd (pc := 95) dX11_does_95 ?_
    refine r_callV1 (pc := 96) dX11_does_96 qX11_numberAt kX11_171 vX11_numberAt (by exact isM.gx (by assumption)) rfl rfl (Nat.le_of_ble_eq_true rfl) (by have y := m_numberAt (G := G) (l := l) d hB0 hPo (p := p + 3) (n := n) (by omega) hst; rw [show ((p + 3 : Nat) : Int) = (p : Int) + 3 by omega] at y; exact y) (fun v_96 h_96 q_96 => ?_)
    obtain ⟨rfl, rfl⟩ := q_96
    refine rj_iadd (pc := 99) dX11_does_99 ?_
    rw [J_wrap (m (10 + pool (p + 1) - 48).toNat + numAt pool n (p + 3))]
    first | refine rm_iast0 (pc := 100) (j := (10 + pool (p + 1) - 48).toNat) dX11_does_100 (by assumption) (by first | assumption | exact b01_r | exact bz_r | omega | (constructor <;> omega) | exact hM _ | exact hPo _ | exact hTa _ | exact hRo _) (by first | assumption | exact b01_r | exact bz_r | omega | (constructor <;> omega) | exact hM _ | exact hPo _ | exact hTa _ | exact hRo _) (by first | assumption | exact b01_r | exact bz_r | omega | (constructor <;> omega) | exact hM _ | exact hPo _ | exact hTa _ | exact hRo _) (by omega) (fun h_100 hB_100 hS_100 => ?_)
    refine rj_iconst (pc := 101) dX11_does_101 ?_
    refine r_ireturn (pc := 102) .int dX11_does_102 rfl (by first | rfl | assumption) ?_
    exact ⟨rfl, hB_100, hS_100⟩
  rw [if_neg e_6_43] at ho_6
  by_cases e_6_63 : (63 : Int) = pool p
  · rw [if_pos e_6_63] at ho_6
    obtain rfl : tgt_6 = 273 := by omega
    exfalso; omega
  rw [if_neg e_6_63] at ho_6
  by_cases e_6_97 : (97 : Int) = pool p
  · rw [if_pos e_6_97] at ho_6
    obtain rfl : tgt_6 = 111 := by omega
    exfalso; omega
  rw [if_neg e_6_97] at ho_6
  by_cases e_6_107 : (107 : Int) = pool p
  · rw [if_pos e_6_107] at ho_6
    obtain rfl : tgt_6 = 227 := by omega
    exfalso; omega
  rw [if_neg e_6_107] at ho_6
  by_cases e_6_109 : (109 : Int) = pool p
  · rw [if_pos e_6_109] at ho_6
    obtain rfl : tgt_6 = 159 := by omega
    exfalso; omega
  rw [if_neg e_6_109] at ho_6
  by_cases e_6_120 : (120 : Int) = pool p
  · rw [if_pos e_6_120] at ho_6
    obtain rfl : tgt_6 = 120 := by omega
    exfalso; omega
  rw [if_neg e_6_120] at ho_6
  obtain rfl : tgt_6 = 336 := by omega
  exfalso; omega
set_option maxHeartbeats 4000000 in
set_option maxRecDepth 100000 in
theorem d_bang {G : mG} {l : Launch} (d : Nat) {h : mH} {x s : Nat} {f4 f6 f8 f9 f10 f11 f12 f13 f14 f16 f18 : Int} {m kp was pool tape pln pap rwd rw : Nat → Int}(hB : isM h x (mFs x f4 f6 f8 f9 f10 f11 f12 f13 f14 f16 f18 s) m kp was pool tape pln pap rwd rw) {p : Nat} (hp : p + 40 ≤ 12342) (hPo : ∀ q, InR (pool q)) (hok : mOk m) {s2 : Int} (hs : InR s2) (hk : pool p = 33) {n : Nat} (hn : n ≤ 20) (hst : stopsBy pool n (if pool (p + 1) = 45 then p + 1 + 1 else p + 1)) : RUNM G l (d + 2) mX11_does [.ref x, .int (J (p : Int)), .int (J s2)] h (fun v h' => v = some (.int (J (numAt pool n (p + 1)))) ∧ h' = h) := by
  obtain ⟨hM, k0, k1, k2, k3, k4, k5, k7⟩ := hok
  have hB0 := hB
  dsimp only [mFs] at hB
  have rp := hPo p
  refine RUNM.of (by decide +kernel) (Nat.le_of_ble_eq_true rfl) ?_
  refine r_aload_n (pc := 0) dX11_does_0 rfl (by first | rfl | exact isRefV_rf _) ?_
  refine rm_getf (pc := 1) dX11_does_1 fX11_21 (by assumption) rfl ?_
  refine r_iload_n (pc := 4) dX11_does_4 rfl ?_
  refine rj_iald (pc := 5) (j := p) dX11_does_5 (by first | exact isM.g0 (by assumption) | exact isM.g3 (by assumption) | exact isM.g4 (by assumption) | exact isM.g8 (by assumption) | exact isM.g7 (by assumption) | exact isM.g6 (by assumption) | exact isM.g5 (by assumption) | exact isM.g1 (by assumption) | exact isM.g2 (by assumption)) (by first | assumption | exact b01_r | exact bz_r | omega | (constructor <;> omega) | exact hM _ | exact hPo _ | exact hTa _ | exact hRo _) (by first | assumption | exact b01_r | exact bz_r | omega | (constructor <;> omega) | exact hM _ | exact hPo _ | exact hTa _ | exact hRo _) (by first | assumption | exact b01_r | exact bz_r | omega | (constructor <;> omega) | exact hM _ | exact hPo _ | exact hTa _ | exact hRo _) (by omega) ?_
  refine rj_lsw (pc := 6) dX11_does_6 rfl (by first | assumption | exact b01_r | exact bz_r | omega | (constructor <;> omega) | exact hM _ | exact hPo _ | exact hTa _ | exact hRo _) (by simp only [Op.lookupswitch.offset_cons, Op.lookupswitch.offset_nil]; repeat' split; all_goals omega) (fun off_6 tgt_6 ho_6 ht_6 => ?_)
  simp only [Op.lookupswitch.offset_cons, Op.lookupswitch.offset_nil] at ho_6
  by_cases e_6_33 : (33 : Int) = pool p
  · rw [if_pos e_6_33] at ho_6
    obtain rfl : tgt_6 = 103 := by omega
    refine r_aload_n (pc := 103) dX11_does_103 rfl (by first | rfl | exact isRefV_rf _) ?_
    refine r_iload_n (pc := 104) dX11_does_104 rfl ?_
    refine rj_iconst (pc := 105) dX11_does_105 ?_
    refine rj_iadd (pc := 106) dX11_does_106 ?_
    refine r_callV1 (pc := 107) dX11_does_107 qX11_numberAt kX11_171 vX11_numberAt (by exact isM.gx (by assumption)) rfl rfl (Nat.le_of_ble_eq_true rfl) (by have y := m_numberAt (G := G) (l := l) d hB0 hPo (p := p + 1) (n := n) (by omega) hst; rw [show ((p + 1 : Nat) : Int) = (p : Int) + 1 by omega] at y; exact y) (fun v_107 h_107 q_107 => ?_)
    obtain ⟨rfl, rfl⟩ := q_107
    refine r_ireturn (pc := 110) .int dX11_does_110 rfl (by first | rfl | assumption) ?_
    exact ⟨rfl, rfl⟩
  rw [if_neg e_6_33] at ho_6
  by_cases e_6_43 : (43 : Int) = pool p
  · rw [if_pos e_6_43] at ho_6
    obtain rfl : tgt_6 = 72 := by omega
    exfalso; omega
  rw [if_neg e_6_43] at ho_6
  by_cases e_6_63 : (63 : Int) = pool p
  · rw [if_pos e_6_63] at ho_6
    obtain rfl : tgt_6 = 273 := by omega
    exfalso; omega
  rw [if_neg e_6_63] at ho_6
  by_cases e_6_97 : (97 : Int) = pool p
  · rw [if_pos e_6_97] at ho_6
    obtain rfl : tgt_6 = 111 := by omega
    exfalso; omega
  rw [if_neg e_6_97] at ho_6
  by_cases e_6_107 : (107 : Int) = pool p
  · rw [if_pos e_6_107] at ho_6
    obtain rfl : tgt_6 = 227 := by omega
    exfalso; omega
  rw [if_neg e_6_107] at ho_6
  by_cases e_6_109 : (109 : Int) = pool p
  · rw [if_pos e_6_109] at ho_6
    obtain rfl : tgt_6 = 159 := by omega
    exfalso; omega
  rw [if_neg e_6_109] at ho_6
  by_cases e_6_120 : (120 : Int) = pool p
  · rw [if_pos e_6_120] at ho_6
    obtain rfl : tgt_6 = 120 := by omega
    exfalso; omega
  rw [if_neg e_6_120] at ho_6
  obtain rfl : tgt_6 = 336 := by omega
  exfalso; omega
set_option maxHeartbeats 4000000 in
set_option maxRecDepth 100000 in
theorem d_take {G : mG} {l : Launch} (d : Nat) {h : mH} {x s : Nat} {f4 f6 f8 f9 f10 f11 f12 f13 f14 f16 f18 : Int} {m kp was pool tape pln pap rwd rw : Nat → Int}(hB : isM h x (mFs x f4 f6 f8 f9 f10 f11 f12 f13 f14 f16 f18 s) m kp was pool tape pln pap rwd rw) {p : Nat} (hp : p + 40 ≤ 12342) (hPo : ∀ q, InR (pool q)) (hok : mOk m) {s2 : Int} (hs : InR s2) (hk : pool p = 97) {N : Nat} (hN : m 1 = (N : Int)) {e n : Nat} (he : neL pool 7 (p + 1) = e) (hpn : p + 10 + n ≤ 12341) (hst : pool e = 123 → brStop pool n (e + 1) 1) : RUNM G l (d + 5) mX11_does [.ref x, .int (J (p : Int)), .int (J s2)] h (fun v h' => v = some (.int (J (takenV m pool N (p + 1) e s2))) ∧ isM h' x (mFs x f4 f6 f8 f9 f10 f11 f12 f13 f14 f16 f18 s) (takenM m pool N n (p + 1) e s2) kp was pool tape pln pap rwd rw ∧ Same (mBlk x) h h') := by
  obtain ⟨hM, k0, k1, k2, k3, k4, k5, k7⟩ := hok
  have hB0 := hB
  dsimp only [mFs] at hB
  have rp := hPo p
  refine RUNM.of (by decide +kernel) (Nat.le_of_ble_eq_true rfl) ?_
  refine r_aload_n (pc := 0) dX11_does_0 rfl (by first | rfl | exact isRefV_rf _) ?_
  refine rm_getf (pc := 1) dX11_does_1 fX11_21 (by assumption) rfl ?_
  refine r_iload_n (pc := 4) dX11_does_4 rfl ?_
  refine rj_iald (pc := 5) (j := p) dX11_does_5 (by first | exact isM.g0 (by assumption) | exact isM.g3 (by assumption) | exact isM.g4 (by assumption) | exact isM.g8 (by assumption) | exact isM.g7 (by assumption) | exact isM.g6 (by assumption) | exact isM.g5 (by assumption) | exact isM.g1 (by assumption) | exact isM.g2 (by assumption)) (by first | assumption | exact b01_r | exact bz_r | omega | (constructor <;> omega) | exact hM _ | exact hPo _ | exact hTa _ | exact hRo _) (by first | assumption | exact b01_r | exact bz_r | omega | (constructor <;> omega) | exact hM _ | exact hPo _ | exact hTa _ | exact hRo _) (by first | assumption | exact b01_r | exact bz_r | omega | (constructor <;> omega) | exact hM _ | exact hPo _ | exact hTa _ | exact hRo _) (by omega) ?_
  refine rj_lsw (pc := 6) dX11_does_6 rfl (by first | assumption | exact b01_r | exact bz_r | omega | (constructor <;> omega) | exact hM _ | exact hPo _ | exact hTa _ | exact hRo _) (by simp only [Op.lookupswitch.offset_cons, Op.lookupswitch.offset_nil]; repeat' split; all_goals omega) (fun off_6 tgt_6 ho_6 ht_6 => ?_)
  simp only [Op.lookupswitch.offset_cons, Op.lookupswitch.offset_nil] at ho_6
  by_cases e_6_33 : (33 : Int) = pool p
  · rw [if_pos e_6_33] at ho_6
    obtain rfl : tgt_6 = 103 := by omega
    exfalso; omega
  rw [if_neg e_6_33] at ho_6
  by_cases e_6_43 : (43 : Int) = pool p
  · rw [if_pos e_6_43] at ho_6
    obtain rfl : tgt_6 = 72 := by omega
    exfalso; omega
  rw [if_neg e_6_43] at ho_6
  by_cases e_6_63 : (63 : Int) = pool p
  · rw [if_pos e_6_63] at ho_6
    obtain rfl : tgt_6 = 273 := by omega
    exfalso; omega
  rw [if_neg e_6_63] at ho_6
  by_cases e_6_97 : (97 : Int) = pool p
  · rw [if_pos e_6_97] at ho_6
    obtain rfl : tgt_6 = 111 := by omega
    refine r_aload_n (pc := 111) dX11_does_111 rfl (by first | rfl | exact isRefV_rf _) ?_
    refine r_iload_n (pc := 112) dX11_does_112 rfl ?_
    refine rj_iconst (pc := 113) dX11_does_113 ?_
    refine rj_iadd (pc := 114) dX11_does_114 ?_
    refine r_iload_n (pc := 115) dX11_does_115 rfl ?_
    refine r_callV2 (pc := 116) dX11_does_116 qX11_taken kX11_174 vX11_taken (by exact isM.gx (by assumption)) rfl rfl (Nat.le_of_ble_eq_true rfl) (by have y := m_taken (G := G) (l := l) d hB0 hM hPo hN (by omega) k0 (fun t ht => k7 t (by omega)) (p := p + 1) (n := n) hs he (by omega) (by omega) hst; rw [show ((p + 1 : Nat) : Int) = (p : Int) + 1 by omega] at y; exact y) (fun v_116 h_116 q_116 => ?_)
    obtain ⟨rfl, hB_116, S_116⟩ := q_116
    refine r_ireturn (pc := 119) .int dX11_does_119 rfl (by first | rfl | assumption) ?_
    exact ⟨rfl, hB_116, S_116⟩
  rw [if_neg e_6_97] at ho_6
  by_cases e_6_107 : (107 : Int) = pool p
  · rw [if_pos e_6_107] at ho_6
    obtain rfl : tgt_6 = 227 := by omega
    exfalso; omega
  rw [if_neg e_6_107] at ho_6
  by_cases e_6_109 : (109 : Int) = pool p
  · rw [if_pos e_6_109] at ho_6
    obtain rfl : tgt_6 = 159 := by omega
    exfalso; omega
  rw [if_neg e_6_109] at ho_6
  by_cases e_6_120 : (120 : Int) = pool p
  · rw [if_pos e_6_120] at ho_6
    obtain rfl : tgt_6 = 120 := by omega
    exfalso; omega
  rw [if_neg e_6_120] at ho_6
  obtain rfl : tgt_6 = 336 := by omega
  exfalso; omega
set_option maxHeartbeats 4000000 in
set_option maxRecDepth 100000 in
theorem d_nop {G : mG} {l : Launch} (d : Nat) {h : mH} {x s : Nat} {f4 f6 f8 f9 f10 f11 f12 f13 f14 f16 f18 : Int} {m kp was pool tape pln pap rwd rw : Nat → Int}(hB : isM h x (mFs x f4 f6 f8 f9 f10 f11 f12 f13 f14 f16 f18 s) m kp was pool tape pln pap rwd rw) {p : Nat} (hp : p + 40 ≤ 12342) (hPo : ∀ q, InR (pool q)) (hok : mOk m) {s2 : Int} (hs : InR s2) (hk : ¬ pool p = 33 ∧ ¬ pool p = 43 ∧ ¬ pool p = 63 ∧ ¬ pool p = 97 ∧ ¬ pool p = 107 ∧ ¬ pool p = 109 ∧ ¬ pool p = 120) : RUNM G l (d) mX11_does [.ref x, .int (J (p : Int)), .int (J s2)] h (fun v h' => v = some (.int (J 0)) ∧ h' = h) := by
  dsimp only [mFs] at hB
  have rp := hPo p
  refine RUNM.of (by decide +kernel) (Nat.le_of_ble_eq_true rfl) ?_
  refine r_aload_n (pc := 0) dX11_does_0 rfl (by first | rfl | exact isRefV_rf _) ?_
  refine rm_getf (pc := 1) dX11_does_1 fX11_21 (by assumption) rfl ?_
  refine r_iload_n (pc := 4) dX11_does_4 rfl ?_
  refine rj_iald (pc := 5) (j := p) dX11_does_5 (by first | exact isM.g0 (by assumption) | exact isM.g3 (by assumption) | exact isM.g4 (by assumption) | exact isM.g8 (by assumption) | exact isM.g7 (by assumption) | exact isM.g6 (by assumption) | exact isM.g5 (by assumption) | exact isM.g1 (by assumption) | exact isM.g2 (by assumption)) (by first | assumption | exact b01_r | exact bz_r | omega | (constructor <;> omega) | exact hM _ | exact hPo _ | exact hTa _ | exact hRo _) (by first | assumption | exact b01_r | exact bz_r | omega | (constructor <;> omega) | exact hM _ | exact hPo _ | exact hTa _ | exact hRo _) (by first | assumption | exact b01_r | exact bz_r | omega | (constructor <;> omega) | exact hM _ | exact hPo _ | exact hTa _ | exact hRo _) (by omega) ?_
  refine rj_lsw (pc := 6) dX11_does_6 rfl (by first | assumption | exact b01_r | exact bz_r | omega | (constructor <;> omega) | exact hM _ | exact hPo _ | exact hTa _ | exact hRo _) (by simp only [Op.lookupswitch.offset_cons, Op.lookupswitch.offset_nil]; repeat' split; all_goals omega) (fun off_6 tgt_6 ho_6 ht_6 => ?_)
  simp only [Op.lookupswitch.offset_cons, Op.lookupswitch.offset_nil] at ho_6
  by_cases e_6_33 : (33 : Int) = pool p
  · rw [if_pos e_6_33] at ho_6
    obtain rfl : tgt_6 = 103 := by omega
    exfalso; omega
  rw [if_neg e_6_33] at ho_6
  by_cases e_6_43 : (43 : Int) = pool p
  · rw [if_pos e_6_43] at ho_6
    obtain rfl : tgt_6 = 72 := by omega
    exfalso; omega
  rw [if_neg e_6_43] at ho_6
  by_cases e_6_63 : (63 : Int) = pool p
  · rw [if_pos e_6_63] at ho_6
    obtain rfl : tgt_6 = 273 := by omega
    exfalso; omega
  rw [if_neg e_6_63] at ho_6
  by_cases e_6_97 : (97 : Int) = pool p
  · rw [if_pos e_6_97] at ho_6
    obtain rfl : tgt_6 = 111 := by omega
    exfalso; omega
  rw [if_neg e_6_97] at ho_6
  by_cases e_6_107 : (107 : Int) = pool p
  · rw [if_pos e_6_107] at ho_6
    obtain rfl : tgt_6 = 227 := by omega
    exfalso; omega
  rw [if_neg e_6_107] at ho_6
  by_cases e_6_109 : (109 : Int) = pool p
  · rw [if_pos e_6_109] at ho_6
    obtain rfl : tgt_6 = 159 := by omega
    exfalso; omega
  rw [if_neg e_6_109] at ho_6
  by_cases e_6_120 : (120 : Int) = pool p
  · rw [if_pos e_6_120] at ho_6
    obtain rfl : tgt_6 = 120 := by omega
    exfalso; omega
  rw [if_neg e_6_120] at ho_6
  obtain rfl : tgt_6 = 336 := by omega
  refine rj_iconst (pc := 336) dX11_does_336 ?_
  refine r_ireturn (pc := 337) .int dX11_does_337 rfl (by first | rfl | assumption) ?_
  exact ⟨rfl, rfl⟩
set_option maxHeartbeats 4000000 in
set_option maxRecDepth 100000 in
theorem d_cancel {G : mG} {l : Launch} (d : Nat) {h : mH} {x s : Nat} {f4 f6 f8 f9 f10 f11 f12 f13 f14 f16 f18 : Int} {m kp was pool tape pln pap rwd rw : Nat → Int}(hB : isM h x (mFs x f4 f6 f8 f9 f10 f11 f12 f13 f14 f16 f18 s) m kp was pool tape pln pap rwd rw) {p : Nat} (hp : p + 40 ≤ 12342) (hPo : ∀ q, InR (pool q)) (hok : mOk m) {s2 : Int} (hs : InR s2) (hk : pool p = 107) (hc : 48 ≤ pool (p + 1) ∧ pool (p + 1) ≤ 57) : RUNM G l (d + 3) mX11_does [.ref x, .int (J (p : Int)), .int (J s2)] h (fun v h' => v = some (.int (J (if (pool (p + 1) - 48) ≤ m 3 - 1 ∧ m (1610 + 72 * (pool (p + 1) - 48)).toNat = 0 then 0 else 106))) ∧ isM h' x (mFs x f4 f6 f8 f9 f10 f11 f12 f13 f14 f16 f18 s) (if (pool (p + 1) - 48) ≤ m 3 - 1 ∧ m (1610 + 72 * (pool (p + 1) - 48)).toNat = 0 then updI m (1614 + 72 * (pool (p + 1) - 48)).toNat 1 else m) kp was pool tape pln pap rwd rw ∧ Same (mBlk x) h h') := by
  obtain ⟨hM, k0, k1, k2, k3, k4, k5, k7⟩ := hok
  have hB0 := hB
  dsimp only [mFs] at hB
  have rp := hPo p
  have rc := hPo (p + 1)
  refine RUNM.of (by decide +kernel) (Nat.le_of_ble_eq_true rfl) ?_
  refine r_aload_n (pc := 0) dX11_does_0 rfl (by first | rfl | exact isRefV_rf _) ?_
  refine rm_getf (pc := 1) dX11_does_1 fX11_21 (by assumption) rfl ?_
  refine r_iload_n (pc := 4) dX11_does_4 rfl ?_
  refine rj_iald (pc := 5) (j := p) dX11_does_5 (by first | exact isM.g0 (by assumption) | exact isM.g3 (by assumption) | exact isM.g4 (by assumption) | exact isM.g8 (by assumption) | exact isM.g7 (by assumption) | exact isM.g6 (by assumption) | exact isM.g5 (by assumption) | exact isM.g1 (by assumption) | exact isM.g2 (by assumption)) (by first | assumption | exact b01_r | exact bz_r | omega | (constructor <;> omega) | exact hM _ | exact hPo _ | exact hTa _ | exact hRo _) (by first | assumption | exact b01_r | exact bz_r | omega | (constructor <;> omega) | exact hM _ | exact hPo _ | exact hTa _ | exact hRo _) (by first | assumption | exact b01_r | exact bz_r | omega | (constructor <;> omega) | exact hM _ | exact hPo _ | exact hTa _ | exact hRo _) (by omega) ?_
  refine rj_lsw (pc := 6) dX11_does_6 rfl (by first | assumption | exact b01_r | exact bz_r | omega | (constructor <;> omega) | exact hM _ | exact hPo _ | exact hTa _ | exact hRo _) (by simp only [Op.lookupswitch.offset_cons, Op.lookupswitch.offset_nil]; repeat' split; all_goals omega) (fun off_6 tgt_6 ho_6 ht_6 => ?_)
  simp only [Op.lookupswitch.offset_cons, Op.lookupswitch.offset_nil] at ho_6
  by_cases e_6_33 : (33 : Int) = pool p
  · rw [if_pos e_6_33] at ho_6
    obtain rfl : tgt_6 = 103 := by omega
    exfalso; omega
  rw [if_neg e_6_33] at ho_6
  by_cases e_6_43 : (43 : Int) = pool p
  · rw [if_pos e_6_43] at ho_6
    obtain rfl : tgt_6 = 72 := by omega
    exfalso; omega
  rw [if_neg e_6_43] at ho_6
  by_cases e_6_63 : (63 : Int) = pool p
  · rw [if_pos e_6_63] at ho_6
    obtain rfl : tgt_6 = 273 := by omega
    exfalso; omega
  rw [if_neg e_6_63] at ho_6
  by_cases e_6_97 : (97 : Int) = pool p
  · rw [if_pos e_6_97] at ho_6
    obtain rfl : tgt_6 = 111 := by omega
    exfalso; omega
  rw [if_neg e_6_97] at ho_6
  by_cases e_6_107 : (107 : Int) = pool p
  · rw [if_pos e_6_107] at ho_6
    obtain rfl : tgt_6 = 227 := by omega
    refine r_aload_n (pc := 227) dX11_does_227 rfl (by first | rfl | exact isRefV_rf _) ?_
    refine rm_getf (pc := 228) dX11_does_228 fX11_21 (by assumption) rfl ?_
    refine r_iload_n (pc := 231) dX11_does_231 rfl ?_
    refine rj_iconst (pc := 232) dX11_does_232 ?_
    refine rj_iadd (pc := 233) dX11_does_233 ?_
    refine rj_iald (pc := 234) (j := p + 1) dX11_does_234 (by first | exact isM.g0 (by assumption) | exact isM.g3 (by assumption) | exact isM.g4 (by assumption) | exact isM.g8 (by assumption) | exact isM.g7 (by assumption) | exact isM.g6 (by assumption) | exact isM.g5 (by assumption) | exact isM.g1 (by assumption) | exact isM.g2 (by assumption)) (by first | assumption | exact b01_r | exact bz_r | omega | (constructor <;> omega) | exact hM _ | exact hPo _ | exact hTa _ | exact hRo _) (by first | assumption | exact b01_r | exact bz_r | omega | (constructor <;> omega) | exact hM _ | exact hPo _ | exact hTa _ | exact hRo _) (by first | assumption | exact b01_r | exact bz_r | omega | (constructor <;> omega) | exact hM _ | exact hPo _ | exact hTa _ | exact hRo _) (by omega) ?_
    refine rj_bipush (pc := 235) dX11_does_235 (by decide +kernel) ?_
    refine rj_isub (pc := 237) dX11_does_237 ?_
    refine r_istore_n (pc := 238) dX11_does_238 (Nat.le_of_ble_eq_true rfl) ?_
    dsimp only [lsSt, List.set, mLs, mEnt]
    refine r_aload_n (pc := 239) dX11_does_239 rfl (by first | rfl | exact isRefV_rf _) ?_
    refine r_iload_n (pc := 240) dX11_does_240 rfl ?_
    refine r_callV1 (pc := 241) dX11_does_241 qX11_isTask kX11_180 vX11_isTask (by exact isM.gx (by assumption)) rfl rfl (Nat.le_of_ble_eq_true rfl) (m_isTask _ hB0 ⟨by omega, by omega⟩ ⟨by omega, by omega⟩) (fun v_241 h_241 q_241 => ?_)
    obtain ⟨rfl, rfl⟩ := q_241
    refine rj_if_eq (pc := 244) (tgt := 255) dX11_does_244 (by decide) (by first | assumption | exact b01_r | exact bz_r | omega | (constructor <;> omega) | exact hM _ | exact hPo _ | exact hTa _ | exact hRo _) (fun c_244 => ?_) (fun c_244 => ?_)
    · try simp only [b01_0, bz_0, Classical.not_not] at c_244
      refine rj_bipush (pc := 255) dX11_does_255 (by decide +kernel) ?_
      refine r_ireturn (pc := 257) .int dX11_does_257 rfl (by first | rfl | assumption) ?_
      first | (rw [if_neg (fun q => c_244 ⟨by omega, q.1⟩), if_neg (fun q => c_244 ⟨by omega, q.1⟩)]; exact ⟨rfl, hB0, Same.refl⟩) | (rw [if_neg (fun q => c_252 q.2), if_neg (fun q => c_252 q.2)]; exact ⟨rfl, hB0, Same.refl⟩)
    · try simp only [b01_0, bz_0, Classical.not_not] at c_244
      refine r_aload_n (pc := 247) dX11_does_247 rfl (by first | rfl | exact isRefV_rf _) ?_
      refine r_iload_n (pc := 248) dX11_does_248 rfl ?_
      refine r_callV1 (pc := 249) dX11_does_249 qX11_isReady kX11_183 vX11_isReady (by exact isM.gx (by assumption)) rfl rfl (Nat.le_of_ble_eq_true rfl) (m_isReady _ hB0 hM (by omega) (by omega)) (fun v_249 h_249 q_249 => ?_)
      obtain ⟨rfl, rfl⟩ := q_249
      refine rj_if_ne (pc := 252) (tgt := 258) dX11_does_252 (by decide) (by first | assumption | exact b01_r | exact bz_r | omega | (constructor <;> omega) | exact hM _ | exact hPo _ | exact hTa _ | exact hRo _) (fun c_252 => ?_) (fun c_252 => ?_)
      · try simp only [b01_0, bz_0, Classical.not_not] at c_252
        refine r_aload_n (pc := 258) dX11_does_258 rfl (by first | rfl | exact isRefV_rf _) ?_
        refine rm_getf (pc := 259) dX11_does_259 fX11_11 (by assumption) rfl ?_
        refine r_iload_n (pc := 262) dX11_does_262 rfl ?_
        refine rj_bipush (pc := 263) dX11_does_263 (by decide +kernel) ?_
        refine rj_iconst (pc := 265) dX11_does_265 ?_
        refine r_callS3 (pc := 266) dX11_does_266 qX11_ofTask kX11_58 sX11_ofTask (Nat.le_of_ble_eq_true rfl) (m_ofTask _) (fun v_266 h_266 q_266 => ?_)
        obtain ⟨rfl, rfl⟩ := q_266
        refine rj_iconst (pc := 269) dX11_does_269 ?_
        first | refine rm_iast0 (pc := 270) (j := (1614 + 72 * (pool (p + 1) - 48)).toNat) dX11_does_270 (by assumption) (by first | assumption | exact b01_r | exact bz_r | omega | (constructor <;> omega) | exact hM _ | exact hPo _ | exact hTa _ | exact hRo _) (by first | assumption | exact b01_r | exact bz_r | omega | (constructor <;> omega) | exact hM _ | exact hPo _ | exact hTa _ | exact hRo _) (by first | assumption | exact b01_r | exact bz_r | omega | (constructor <;> omega) | exact hM _ | exact hPo _ | exact hTa _ | exact hRo _) (by omega) (fun h_270 hB_270 hS_270 => ?_)
        refine rj_iconst (pc := 271) dX11_does_271 ?_
        refine r_ireturn (pc := 272) .int dX11_does_272 rfl (by first | rfl | assumption) ?_
        rw [if_pos ⟨c_244.2, c_252⟩, if_pos ⟨c_244.2, c_252⟩]
        exact ⟨rfl, hB_270, hS_270⟩
      · try simp only [b01_0, bz_0, Classical.not_not] at c_252
        refine rj_bipush (pc := 255) dX11_does_255 (by decide +kernel) ?_
        refine r_ireturn (pc := 257) .int dX11_does_257 rfl (by first | rfl | assumption) ?_
        first | (rw [if_neg (fun q => c_244 ⟨by omega, q.1⟩), if_neg (fun q => c_244 ⟨by omega, q.1⟩)]; exact ⟨rfl, hB0, Same.refl⟩) | (rw [if_neg (fun q => c_252 q.2), if_neg (fun q => c_252 q.2)]; exact ⟨rfl, hB0, Same.refl⟩)
  rw [if_neg e_6_107] at ho_6
  by_cases e_6_109 : (109 : Int) = pool p
  · rw [if_pos e_6_109] at ho_6
    obtain rfl : tgt_6 = 159 := by omega
    exfalso; omega
  rw [if_neg e_6_109] at ho_6
  by_cases e_6_120 : (120 : Int) = pool p
  · rw [if_pos e_6_120] at ho_6
    obtain rfl : tgt_6 = 120 := by omega
    exfalso; omega
  rw [if_neg e_6_120] at ho_6
  obtain rfl : tgt_6 = 336 := by omega
  exfalso; omega
end mg_66

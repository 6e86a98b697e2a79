section mg_9l
set_option maxHeartbeats 4000000 in
set_option maxRecDepth 100000 in
theorem L_readNameG {G : mG} {l : Launch} (d : Nat) {a : Nat} {e o z : Int} {f : Nat → Int} (he : InR e) (ho : InR o) (hz : InR z) (hf : ∀ q, InR (f q)) : ∀ (n t : Nat) (p : Int) (y : Int64) (h : mH), isRd h a p e o z f → t + n = 7 → 0 ≤ p ∧ p + n ≤ 1000 → RUN G l (d + 1) mX2_readName 22 [some (.ref a), some (.long y), none, some (.int (J (t : Int)))] [] h (fun v h' => v = some (.long (rnL z f n p y).1) ∧ isRd h' a (rnL z f n p y).2 e o z f ∧ Same (dBlk a) h h') := by
  intro n
  induction n with
  | zero =>
    intro t p y h hD ht hp
    refine r_iload_n (pc := 22) dX2_readName_22 rfl ?_
    refine rj_bipush (pc := 23) dX2_readName_23 (by decide +kernel) ?_
    refine rj_icmp_ge (pc := 25) (tgt := 71) dX2_readName_25 (by decide) (by first | exact b01_r | exact bz_r | omega | (constructor <;> omega) | apply_assumption | (apply atF_r; assumption) | fail "no range") (by first | exact b01_r | exact bz_r | omega | (constructor <;> omega) | apply_assumption | (apply atF_r; assumption) | fail "no range") (fun c_25 => ?_) (fun c_25 => ?_)
    · refine r_lload_n (pc := 71) dX2_readName_71 rfl ?_
      refine r_lreturn (pc := 72) dX2_readName_72 rfl ?_
      exact ⟨rfl, hD, Same.refl⟩
    · exfalso; omega
  | succ n ih =>
    intro t p y h hD ht hp
    have rh := hereC_r (p := p) (z := z) hf
    refine r_iload_n (pc := 22) dX2_readName_22 rfl ?_
    refine rj_bipush (pc := 23) dX2_readName_23 (by decide +kernel) ?_
    refine rj_icmp_ge (pc := 25) (tgt := 71) dX2_readName_25 (by decide) (by first | exact b01_r | exact bz_r | omega | (constructor <;> omega) | apply_assumption | (apply atF_r; assumption) | fail "no range") (by first | exact b01_r | exact bz_r | omega | (constructor <;> omega) | apply_assumption | (apply atF_r; assumption) | fail "no range") (fun c_25 => ?_) (fun c_25 => ?_)
    · refine r_lload_n (pc := 71) dX2_readName_71 rfl ?_
      refine r_lreturn (pc := 72) dX2_readName_72 rfl ?_
      exfalso; omega
    · refine r_lload_n (pc := 28) dX2_readName_28 rfl ?_
      refine rj_iconst (pc := 29) dX2_readName_29 ?_
      refine r_lshl (pc := 30) dX2_readName_30 ?_
      refine r_lstore_n (pc := 31) dX2_readName_31 (Nat.le_of_ble_eq_true rfl) ?_
      dsimp only [lsSt, lsSt2, List.set, mLs, mEnt]
      refine r_aload_n (pc := 32) dX2_readName_32 rfl (by first | rfl | exact isRefV_rf _) ?_
      refine r_callV0 (pc := 33) dX2_readName_33 qX2_here kX2_34 vX2_here (by first | assumption | exact isI.gx (by assumption) | exact isI.gc (by assumption) | exact isW.gx (by assumption) | exact isW.gF (by assumption) | exact isW.gT (by assumption) (by omega) | exact isW.gS (by assumption) (by omega) | exact isW.gK (by assumption) (by omega) | exact isW.g1 (by assumption) | exact isW.g2 (by assumption) | exact isW.g3 (by assumption) | exact isI.gx (isW.i0 (by assumption)) | exact isI.gc (isW.i0 (by assumption)) | exact isI.gx (isW.i1 (by assumption)) | exact isI.gc (isW.i1 (by assumption)) | exact isI.gx (isW.i2 (by assumption)) | exact isI.gc (isW.i2 (by assumption)) | exact isI.gx (isW.i3 (by assumption)) | exact isI.gc (isW.i3 (by assumption)) | exact isI.gx (isW.i4 (by assumption)) | exact isI.gc (isW.i4 (by assumption)) | exact isI.gx (isW.i5 (by assumption)) | exact isI.gc (isW.i5 (by assumption)) | exact isR.gx (by assumption) | exact isRd.gx (by assumption) | exact isSp.gx (by assumption) | exact isI.gx (isR.i (by assumption)) | exact isI.gx (isRd.i (by assumption)) | exact isI.gc (isRd.i (by assumption)) | exact isI.gx (isSp.i (by assumption)) | exact isW.gx (isR.w (by assumption)) | exact isW.gF (isR.w (by assumption)) | fail "no such object") rfl rfl (Nat.le_of_ble_eq_true rfl) (cd_here _ hD ⟨by omega, by omega⟩ he ho hz hf) (fun v_33 h_33 q_33 => ?_)
      obtain ⟨rfl, rfl⟩ := q_33
      refine r_callS1 (pc := 36) dX2_readName_36 qX2_isLetter kX2_103 sX2_isLetter (Nat.le_of_ble_eq_true rfl) (cd_isLetter _ (i := hereC p z f) rh) (fun v_36 h_36 q_36 => ?_)
      obtain ⟨rfl, rfl⟩ := q_36
      refine rj_if_eq (pc := 39) (tgt := 65) dX2_readName_39 (by decide) (by first | exact b01_r | exact bz_r | omega | (constructor <;> omega) | apply_assumption | (apply atF_r; assumption) | fail "no range") (fun c_39 => ?_) (fun c_39 => ?_)
      · try simp only [b01_0, bz_0, Classical.not_not] at c_39
        refine rj_iinc (pc := 65) dX2_readName_65 (Nat.le_of_ble_eq_true rfl) rfl ?_
        dsimp only [lsSt, List.set, mLs, mEnt]
        refine r_goto (pc := 68) (tgt := 22) dX2_readName_68 (by decide) ?_
        rw [rnL, if_neg c_39]
        exact ih (t + 1) p _ _ hD (by omega) (by omega)
      · try simp only [b01_0, bz_0, Classical.not_not] at c_39
        refine r_lload_n (pc := 42) dX2_readName_42 rfl ?_
        refine r_aload_n (pc := 43) dX2_readName_43 rfl (by first | rfl | exact isRefV_rf _) ?_
        refine r_callV0 (pc := 44) dX2_readName_44 qX2_here kX2_34 vX2_here (by first | assumption | exact isI.gx (by assumption) | exact isI.gc (by assumption) | exact isW.gx (by assumption) | exact isW.gF (by assumption) | exact isW.gT (by assumption) (by omega) | exact isW.gS (by assumption) (by omega) | exact isW.gK (by assumption) (by omega) | exact isW.g1 (by assumption) | exact isW.g2 (by assumption) | exact isW.g3 (by assumption) | exact isI.gx (isW.i0 (by assumption)) | exact isI.gc (isW.i0 (by assumption)) | exact isI.gx (isW.i1 (by assumption)) | exact isI.gc (isW.i1 (by assumption)) | exact isI.gx (isW.i2 (by assumption)) | exact isI.gc (isW.i2 (by assumption)) | exact isI.gx (isW.i3 (by assumption)) | exact isI.gc (isW.i3 (by assumption)) | exact isI.gx (isW.i4 (by assumption)) | exact isI.gc (isW.i4 (by assumption)) | exact isI.gx (isW.i5 (by assumption)) | exact isI.gc (isW.i5 (by assumption)) | exact isR.gx (by assumption) | exact isRd.gx (by assumption) | exact isSp.gx (by assumption) | exact isI.gx (isR.i (by assumption)) | exact isI.gx (isRd.i (by assumption)) | exact isI.gc (isRd.i (by assumption)) | exact isI.gx (isSp.i (by assumption)) | exact isW.gx (isR.w (by assumption)) | exact isW.gF (isR.w (by assumption)) | fail "no such object") rfl rfl (Nat.le_of_ble_eq_true rfl) (cd_here _ hD ⟨by omega, by omega⟩ he ho hz hf) (fun v_44 h_44 q_44 => ?_)
        obtain ⟨rfl, rfl⟩ := q_44
        refine rj_bipush (pc := 47) dX2_readName_47 (by decide +kernel) ?_
        refine rj_isub (pc := 49) dX2_readName_49 ?_
        refine rj_iconst (pc := 50) dX2_readName_50 ?_
        refine rj_iadd (pc := 51) dX2_readName_51 ?_
        refine r_i2l (pc := 52) dX2_readName_52 ?_
        refine r_ladd (pc := 53) dX2_readName_53 ?_
        refine r_lstore_n (pc := 54) dX2_readName_54 (Nat.le_of_ble_eq_true rfl) ?_
        dsimp only [lsSt, lsSt2, List.set, mLs, mEnt]
        refine r_aload_n (pc := 55) dX2_readName_55 rfl (by first | rfl | exact isRefV_rf _) ?_
        refine r_dup (pc := 56) dX2_readName_56 (by first | rfl | (cases ‹Option Nat› <;> rfl)) ?_
        refine r_getf (pc := 57) dX2_readName_57 fX2_53 (by first | assumption | exact isI.gx (by assumption) | exact isI.gc (by assumption) | exact isW.gx (by assumption) | exact isW.gF (by assumption) | exact isW.gT (by assumption) (by omega) | exact isW.gS (by assumption) (by omega) | exact isW.gK (by assumption) (by omega) | exact isW.g1 (by assumption) | exact isW.g2 (by assumption) | exact isW.g3 (by assumption) | exact isI.gx (isW.i0 (by assumption)) | exact isI.gc (isW.i0 (by assumption)) | exact isI.gx (isW.i1 (by assumption)) | exact isI.gc (isW.i1 (by assumption)) | exact isI.gx (isW.i2 (by assumption)) | exact isI.gc (isW.i2 (by assumption)) | exact isI.gx (isW.i3 (by assumption)) | exact isI.gc (isW.i3 (by assumption)) | exact isI.gx (isW.i4 (by assumption)) | exact isI.gc (isW.i4 (by assumption)) | exact isI.gx (isW.i5 (by assumption)) | exact isI.gc (isW.i5 (by assumption)) | exact isR.gx (by assumption) | exact isRd.gx (by assumption) | exact isSp.gx (by assumption) | exact isI.gx (isR.i (by assumption)) | exact isI.gx (isRd.i (by assumption)) | exact isI.gc (isRd.i (by assumption)) | exact isI.gx (isSp.i (by assumption)) | exact isW.gx (isR.w (by assumption)) | exact isW.gF (isR.w (by assumption)) | fail "no such object") (by rfl) ?_
        refine rj_iconst (pc := 60) dX2_readName_60 ?_
        refine rj_iadd (pc := 61) dX2_readName_61 ?_
        refine rc_putD1 (pc := 62) dX2_readName_62 fX2_53 (by assumption) (fun h_62 hW_62 hS_62 => ?_)
        refine rj_iinc (pc := 65) dX2_readName_65 (Nat.le_of_ble_eq_true rfl) rfl ?_
        dsimp only [lsSt, List.set, mLs, mEnt]
        refine r_goto (pc := 68) (tgt := 22) dX2_readName_68 (by decide) ?_
        rw [rnL, if_pos c_39]
        exact (ih (t + 1) (p + 1) _ _ hW_62 (by omega) (by omega)).mono (fun v h' g => ⟨g.1, g.2.1, hS_62.trans g.2.2⟩)
end mg_9l

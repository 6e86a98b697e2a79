section mg_51
set_option maxHeartbeats 4000000 in
set_option maxRecDepth 100000 in
theorem L_becomeZeros {G : mG} {l : Launch} (d : Nat) {a n Z : Nat} {f : Nat → Int} (x : Int) (hn : n ≤ 1000) (hZ : Z ≤ n) : ∀ (k t : Nat) (h : mH), isI h a n (Z : Int) (zerF t f) → t + k = Z → RUN G l (d) mX1_becomeZeros 24 [some (.ref a), some (.int (J x)), some (.int (J (t : Int)))] [] h (fun v h' => v = none ∧ isI h' a n (Z : Int) (zerF Z f) ∧ Same (iBlk a) h h') := by
  intro k
  induction k with
  | zero =>
    intro t h I ht
    refine r_iload_n (pc := 24) dX1_becomeZeros_24 rfl ?_
    refine r_aload_n (pc := 25) dX1_becomeZeros_25 rfl (by first | rfl | exact isRefV_rf _) ?_
    refine r_getf (pc := 26) dX1_becomeZeros_26 fX1_13 (by first | assumption | exact isI.gx (by assumption) | exact isI.gc (by assumption) | exact isW.gx (by assumption) | exact isW.gF (by assumption) | exact isW.gT (by assumption) (by omega) | exact isW.gS (by assumption) (by omega) | exact isW.gK (by assumption) (by omega) | exact isW.g1 (by assumption) | exact isW.g2 (by assumption) | exact isW.g3 (by assumption) | exact isI.gx (isW.i0 (by assumption)) | exact isI.gc (isW.i0 (by assumption)) | exact isI.gx (isW.i1 (by assumption)) | exact isI.gc (isW.i1 (by assumption)) | exact isI.gx (isW.i2 (by assumption)) | exact isI.gc (isW.i2 (by assumption)) | exact isI.gx (isW.i3 (by assumption)) | exact isI.gc (isW.i3 (by assumption)) | exact isI.gx (isW.i4 (by assumption)) | exact isI.gc (isW.i4 (by assumption)) | exact isI.gx (isW.i5 (by assumption)) | exact isI.gc (isW.i5 (by assumption)) | exact isR.gx (by assumption) | exact isRd.gx (by assumption) | exact isSp.gx (by assumption) | exact isI.gx (isR.i (by assumption)) | exact isI.gx (isRd.i (by assumption)) | exact isI.gc (isRd.i (by assumption)) | exact isI.gx (isSp.i (by assumption)) | exact isW.gx (isR.w (by assumption)) | exact isW.gF (isR.w (by assumption)) | fail "no such object") (by rfl) ?_
    refine rj_icmp_ge (pc := 29) (tgt := 45) dX1_becomeZeros_29 (by decide) (by first | exact b01_r | exact bz_r | omega | (constructor <;> omega) | apply_assumption | (apply atF_r; assumption) | fail "no range") (by first | exact b01_r | exact bz_r | omega | (constructor <;> omega) | apply_assumption | (apply atF_r; assumption) | fail "no range") (fun c_29 => ?_) (fun c_29 => ?_)
    · refine r_return (pc := 45) dX1_becomeZeros_45 rfl ?_
      obtain rfl : t = Z := by omega
      exact ⟨rfl, I, Same.refl⟩
    · exfalso; omega
  | succ k ih =>
    intro t h I ht
    refine r_iload_n (pc := 24) dX1_becomeZeros_24 rfl ?_
    refine r_aload_n (pc := 25) dX1_becomeZeros_25 rfl (by first | rfl | exact isRefV_rf _) ?_
    refine r_getf (pc := 26) dX1_becomeZeros_26 fX1_13 (by first | assumption | exact isI.gx (by assumption) | exact isI.gc (by assumption) | exact isW.gx (by assumption) | exact isW.gF (by assumption) | exact isW.gT (by assumption) (by omega) | exact isW.gS (by assumption) (by omega) | exact isW.gK (by assumption) (by omega) | exact isW.g1 (by assumption) | exact isW.g2 (by assumption) | exact isW.g3 (by assumption) | exact isI.gx (isW.i0 (by assumption)) | exact isI.gc (isW.i0 (by assumption)) | exact isI.gx (isW.i1 (by assumption)) | exact isI.gc (isW.i1 (by assumption)) | exact isI.gx (isW.i2 (by assumption)) | exact isI.gc (isW.i2 (by assumption)) | exact isI.gx (isW.i3 (by assumption)) | exact isI.gc (isW.i3 (by assumption)) | exact isI.gx (isW.i4 (by assumption)) | exact isI.gc (isW.i4 (by assumption)) | exact isI.gx (isW.i5 (by assumption)) | exact isI.gc (isW.i5 (by assumption)) | exact isR.gx (by assumption) | exact isRd.gx (by assumption) | exact isSp.gx (by assumption) | exact isI.gx (isR.i (by assumption)) | exact isI.gx (isRd.i (by assumption)) | exact isI.gc (isRd.i (by assumption)) | exact isI.gx (isSp.i (by assumption)) | exact isW.gx (isR.w (by assumption)) | exact isW.gF (isR.w (by assumption)) | fail "no such object") (by rfl) ?_
    refine rj_icmp_ge (pc := 29) (tgt := 45) dX1_becomeZeros_29 (by decide) (by first | exact b01_r | exact bz_r | omega | (constructor <;> omega) | apply_assumption | (apply atF_r; assumption) | fail "no range") (by first | exact b01_r | exact bz_r | omega | (constructor <;> omega) | apply_assumption | (apply atF_r; assumption) | fail "no range") (fun c_29 => ?_) (fun c_29 => ?_)
    · refine r_return (pc := 45) dX1_becomeZeros_45 rfl ?_
      exfalso; omega
    · refine r_aload_n (pc := 32) dX1_becomeZeros_32 rfl (by first | rfl | exact isRefV_rf _) ?_
      refine r_getf (pc := 33) dX1_becomeZeros_33 fX1_7 (by first | assumption | exact isI.gx (by assumption) | exact isI.gc (by assumption) | exact isW.gx (by assumption) | exact isW.gF (by assumption) | exact isW.gT (by assumption) (by omega) | exact isW.gS (by assumption) (by omega) | exact isW.gK (by assumption) (by omega) | exact isW.g1 (by assumption) | exact isW.g2 (by assumption) | exact isW.g3 (by assumption) | exact isI.gx (isW.i0 (by assumption)) | exact isI.gc (isW.i0 (by assumption)) | exact isI.gx (isW.i1 (by assumption)) | exact isI.gc (isW.i1 (by assumption)) | exact isI.gx (isW.i2 (by assumption)) | exact isI.gc (isW.i2 (by assumption)) | exact isI.gx (isW.i3 (by assumption)) | exact isI.gc (isW.i3 (by assumption)) | exact isI.gx (isW.i4 (by assumption)) | exact isI.gc (isW.i4 (by assumption)) | exact isI.gx (isW.i5 (by assumption)) | exact isI.gc (isW.i5 (by assumption)) | exact isR.gx (by assumption) | exact isRd.gx (by assumption) | exact isSp.gx (by assumption) | exact isI.gx (isR.i (by assumption)) | exact isI.gx (isRd.i (by assumption)) | exact isI.gc (isRd.i (by assumption)) | exact isI.gx (isSp.i (by assumption)) | exact isW.gx (isR.w (by assumption)) | exact isW.gF (isR.w (by assumption)) | fail "no such object") (by rfl) ?_
      refine r_iload_n (pc := 36) dX1_becomeZeros_36 rfl ?_
      refine rj_iconst (pc := 37) dX1_becomeZeros_37 ?_
      refine rc_iast (pc := 38) dX1_becomeZeros_38 (by assumption) (by first | exact b01_r | exact bz_r | omega | (constructor <;> omega) | apply_assumption | (apply atF_r; assumption) | fail "no range") (by first | exact b01_r | exact bz_r | omega | (constructor <;> omega) | apply_assumption | (apply atF_r; assumption) | fail "no range") (by first | exact b01_r | exact bz_r | omega | (constructor <;> omega) | apply_assumption | (apply atF_r; assumption) | fail "no range") (fun h_38 hI_38 hS_38 => ?_)
      refine rj_iinc (pc := 39) dX1_becomeZeros_39 (Nat.le_of_ble_eq_true rfl) rfl ?_
      dsimp only [lsSt, List.set, mLs, mEnt]
      refine r_goto (pc := 42) (tgt := 24) dX1_becomeZeros_42 (by decide) ?_
      rw [show ((t : Int)).toNat = t by omega, zerF_s] at hI_38
      have y := ih (t + 1) h_38 hI_38 (by omega)
      exact y.mono (fun v h' g => ⟨g.1, g.2.1, hS_38.trans g.2.2⟩)
end mg_51

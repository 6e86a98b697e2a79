/-! ===== the class: a name's letters ===== -/
noncomputable def letA (y : Int64) (i : Int) : Int := ((y >>> ((J (5 * (6 - i))).toInt64 &&& 63)).toInt32 &&& J 31).toInt
theorem and31 (a : Int32) : (a &&& J 31).toInt = ((a.toBitVec.toNat % 32 : Nat) : Int) := by
  have e : J 31 = (31 : Int32) := by rw [J_def]; decide
  rw [e]
  have e2 : (a &&& (31 : Int32)).toBitVec = a.toBitVec &&& 31#32 := rfl
  have e3 : (a.toBitVec &&& 31#32).toNat = a.toBitVec.toNat % 32 := by
    rw [BitVec.toNat_and]
    exact Nat.and_two_pow_sub_one_eq_mod a.toBitVec.toNat 5
  have e4 : (a &&& (31 : Int32)).toInt = (a.toBitVec &&& 31#32).toInt := by rw [← e2]; rfl
  rw [e4, BitVec.toInt_eq_toNat_of_lt (by rw [e3]; omega), e3]
theorem letA_r (y : Int64) (i : Int) : 0 ≤ letA y i ∧ letA y i ≤ 31 := by
  unfold letA; rw [and31]; omega
noncomputable def letV (y : Int64) (i : Int) : Int := if 0 ≤ i ∧ i < 7 then (if letA y i = 0 then 0 else letA y i + 97 - 1) else 0
theorem letV_r (y : Int64) (i : Int) : 0 ≤ letV y i ∧ letV y i ≤ 127 := by
  have z := letA_r y i
  unfold letV; split
  · split <;> omega
  · omega
set_option maxHeartbeats 4000000 in
set_option maxRecDepth 100000 in
theorem cz_letterOf {G : mG} {l : Launch} (d : Nat) {h : mH} {y : Int64} {i : Int} (hi : InR i) : RUNM G l (d) mX10_letterOf [.long y, .int (J i)] h (fun v h' => v = some (.int (J (letV y i))) ∧ h' = h) := by
  refine RUNM.of (by decide +kernel) (Nat.le_of_ble_eq_true rfl) ?_
  refine r_iload_n (pc := 0) dX10_letterOf_0 rfl ?_
  refine rj_if_lt (pc := 1) (tgt := 10) dX10_letterOf_1 (by decide) (by first | exact b01_r | exact bz_r | omega | (constructor <;> omega) | apply_assumption | (apply atF_r; assumption) | fail "no range") (fun c_1 => ?_) (fun c_1 => ?_)
  · refine rj_iconst (pc := 10) dX10_letterOf_10 ?_
    refine r_ireturn (pc := 11) .int dX10_letterOf_11 rfl (by first | rfl | assumption) ?_
    first | (exfalso; omega) | exact ⟨by unfold letV; rw [if_neg (by omega)], rfl⟩ | exact ⟨by unfold letV; rw [if_pos (by omega), if_pos (by assumption)], rfl⟩ | exact ⟨by unfold letV; rw [if_pos (by omega), if_neg (by assumption)], rfl⟩
  · refine r_iload_n (pc := 4) dX10_letterOf_4 rfl ?_
    refine rj_bipush (pc := 5) dX10_letterOf_5 (by decide +kernel) ?_
    refine rj_icmp_lt (pc := 7) (tgt := 12) dX10_letterOf_7 (by decide) (by first | exact b01_r | exact bz_r | omega | (constructor <;> omega) | apply_assumption | (apply atF_r; assumption) | fail "no range") (by first | exact b01_r | exact bz_r | omega | (constructor <;> omega) | apply_assumption | (apply atF_r; assumption) | fail "no range") (fun c_7 => ?_) (fun c_7 => ?_)
    · refine r_lload_n (pc := 12) dX10_letterOf_12 rfl ?_
      refine rj_iconst (pc := 13) dX10_letterOf_13 ?_
      refine rj_bipush (pc := 14) dX10_letterOf_14 (by decide +kernel) ?_
      refine r_iload_n (pc := 16) dX10_letterOf_16 rfl ?_
      refine rj_isub (pc := 17) dX10_letterOf_17 ?_
      refine rj_imul (pc := 18) dX10_letterOf_18 ?_
      refine r_lshr (pc := 19) dX10_letterOf_19 ?_
      refine r_l2i (pc := 20) dX10_letterOf_20 ?_
      refine rj_bipush (pc := 21) dX10_letterOf_21 (by decide +kernel) ?_
      refine r_iand (pc := 23) dX10_letterOf_23 ?_
      rw [show ((y >>> ((J (5 * (6 - i))).toInt64 &&& 63)).toInt32 &&& J 31) = J (letA y i) from J_of _]
      have ra := letA_r y i
      refine r_istore_n (pc := 24) dX10_letterOf_24 (Nat.le_of_ble_eq_true rfl) ?_
      dsimp only [lsSt, List.set, mLs, mEnt]
      refine r_iload_n (pc := 25) dX10_letterOf_25 rfl ?_
      refine rj_if_ne (pc := 26) (tgt := 33) dX10_letterOf_26 (by decide) (by first | exact b01_r | exact bz_r | omega | (constructor <;> omega) | apply_assumption | (apply atF_r; assumption) | fail "no range") (fun c_26 => ?_) (fun c_26 => ?_)
      · try simp only [b01_0, bz_0, Classical.not_not] at c_26
        refine r_iload_n (pc := 33) dX10_letterOf_33 rfl ?_
        refine rj_bipush (pc := 34) dX10_letterOf_34 (by decide +kernel) ?_
        refine rj_iadd (pc := 36) dX10_letterOf_36 ?_
        refine rj_iconst (pc := 37) dX10_letterOf_37 ?_
        refine rj_isub (pc := 38) dX10_letterOf_38 ?_
        refine r_ireturn (pc := 39) .int dX10_letterOf_39 rfl (by first | rfl | assumption) ?_
        first | (exfalso; omega) | exact ⟨by unfold letV; rw [if_neg (by omega)], rfl⟩ | exact ⟨by unfold letV; rw [if_pos (by omega), if_pos (by assumption)], rfl⟩ | exact ⟨by unfold letV; rw [if_pos (by omega), if_neg (by assumption)], rfl⟩
      · try simp only [b01_0, bz_0, Classical.not_not] at c_26
        refine rj_iconst (pc := 29) dX10_letterOf_29 ?_
        refine r_goto (pc := 30) (tgt := 39) dX10_letterOf_30 (by decide) ?_
        refine r_ireturn (pc := 39) .int dX10_letterOf_39 rfl (by first | rfl | assumption) ?_
        first | (exfalso; omega) | exact ⟨by unfold letV; rw [if_neg (by omega)], rfl⟩ | exact ⟨by unfold letV; rw [if_pos (by omega), if_pos (by assumption)], rfl⟩ | exact ⟨by unfold letV; rw [if_pos (by omega), if_neg (by assumption)], rfl⟩
    · refine rj_iconst (pc := 10) dX10_letterOf_10 ?_
      refine r_ireturn (pc := 11) .int dX10_letterOf_11 rfl (by first | rfl | assumption) ?_
      first | (exfalso; omega) | exact ⟨by unfold letV; rw [if_neg (by omega)], rfl⟩ | exact ⟨by unfold letV; rw [if_pos (by omega), if_pos (by assumption)], rfl⟩ | exact ⟨by unfold letV; rw [if_pos (by omega), if_neg (by assumption)], rfl⟩
noncomputable def lnL (y : Int64) : Nat → Nat → Int
  | 0, t => t
  | n + 1, t => if letV y t = 0 then (t : Int) else lnL y n (t + 1)
set_option maxHeartbeats 4000000 in
set_option maxRecDepth 100000 in
theorem L_lettersOf {G : mG} {l : Launch} (d : Nat) {h : mH} {y : Int64} : ∀ n t : Nat, t + n = 7 → RUN G l (d + 1) mX10_lettersOf 2 [some (.long y), none, some (.int (J (t : Int)))] [] h (fun v h' => v = some (.int (J (lnL y n t))) ∧ h' = h) := by
  intro n
  induction n with
  | zero =>
    intro t ht
    refine r_iload_n (pc := 2) dX10_lettersOf_2 rfl ?_
    refine rj_bipush (pc := 3) dX10_lettersOf_3 (by decide +kernel) ?_
    refine rj_icmp_ge (pc := 5) (tgt := 22) dX10_lettersOf_5 (by decide) (by first | exact b01_r | exact bz_r | omega | (constructor <;> omega) | apply_assumption | (apply atF_r; assumption) | fail "no range") (by first | exact b01_r | exact bz_r | omega | (constructor <;> omega) | apply_assumption | (apply atF_r; assumption) | fail "no range") (fun c_5 => ?_) (fun c_5 => ?_)
    · refine r_iload_n (pc := 22) dX10_lettersOf_22 rfl ?_
      refine r_ireturn (pc := 23) .int dX10_lettersOf_23 rfl (by first | rfl | assumption) ?_
      exact ⟨rfl, rfl⟩
    · exfalso; omega
  | succ n ih =>
    intro t ht
    refine r_iload_n (pc := 2) dX10_lettersOf_2 rfl ?_
    refine rj_bipush (pc := 3) dX10_lettersOf_3 (by decide +kernel) ?_
    refine rj_icmp_ge (pc := 5) (tgt := 22) dX10_lettersOf_5 (by decide) (by first | exact b01_r | exact bz_r | omega | (constructor <;> omega) | apply_assumption | (apply atF_r; assumption) | fail "no range") (by first | exact b01_r | exact bz_r | omega | (constructor <;> omega) | apply_assumption | (apply atF_r; assumption) | fail "no range") (fun c_5 => ?_) (fun c_5 => ?_)
    · refine r_iload_n (pc := 22) dX10_lettersOf_22 rfl ?_
      refine r_ireturn (pc := 23) .int dX10_lettersOf_23 rfl (by first | rfl | assumption) ?_
      first | (exfalso; omega) | exact ⟨by rw [lnL, if_pos c_13], rfl⟩
    · refine r_lload_n (pc := 8) dX10_lettersOf_8 rfl ?_
      refine r_iload_n (pc := 9) dX10_lettersOf_9 rfl ?_
      refine r_callS2 (pc := 10) dX10_lettersOf_10 qX10_letterOf kX10_190 sX10_letterOf (Nat.le_of_ble_eq_true rfl) (cz_letterOf _ (y := y) (i := (t : Int)) ⟨by omega, by omega⟩) (fun v_10 h_10 q_10 => ?_)
      obtain ⟨rfl, rfl⟩ := q_10
      have ro := letV_r y (t : Int)
      refine rj_if_eq (pc := 13) (tgt := 22) dX10_lettersOf_13 (by decide) (by first | exact b01_r | exact bz_r | omega | (constructor <;> omega) | apply_assumption | (apply atF_r; assumption) | fail "no range") (fun c_13 => ?_) (fun c_13 => ?_)
      · try simp only [b01_0, bz_0, Classical.not_not] at c_13
        refine r_iload_n (pc := 22) dX10_lettersOf_22 rfl ?_
        refine r_ireturn (pc := 23) .int dX10_lettersOf_23 rfl (by first | rfl | assumption) ?_
        first | (exfalso; omega) | exact ⟨by rw [lnL, if_pos c_13], rfl⟩
      · try simp only [b01_0, bz_0, Classical.not_not] at c_13
        refine rj_iinc (pc := 16) dX10_lettersOf_16 (Nat.le_of_ble_eq_true rfl) rfl ?_
        dsimp only [lsSt, List.set, mLs, mEnt]
        refine r_goto (pc := 19) (tgt := 2) dX10_lettersOf_19 (by decide) ?_
        have z := ih (t + 1) (by omega)
        rw [show ((t + 1 : Nat) : Int) = (t : Int) + 1 by omega] at z
        rw [lnL, if_neg c_13]
        exact z
set_option maxHeartbeats 4000000 in
set_option maxRecDepth 100000 in
theorem cz_lettersOf {G : mG} {l : Launch} (d : Nat) {h : mH} {y : Int64} : RUNM G l (d + 1) mX10_lettersOf [.long y] h (fun v h' => v = some (.int (J (lnL y 7 0))) ∧ h' = h) := by
  refine RUNM.of (by decide +kernel) (Nat.le_of_ble_eq_true rfl) ?_
  refine rj_iconst (pc := 0) dX10_lettersOf_0 ?_
  refine r_istore_n (pc := 1) dX10_lettersOf_1 (Nat.le_of_ble_eq_true rfl) ?_
  dsimp only [lsSt, List.set, mLs, mEnt]
  exact L_lettersOf d 7 0 (by omega)
noncomputable def lessL (y : Int64) (z : Int) (f : Nat → Int) : Nat → Nat → Bool
  | 0, _ => false
  | n + 1, t => if letV y t = atF 120 z f t then lessL y z f n (t + 1) else decide (letV y t < atF 120 z f t)
set_option maxHeartbeats 4000000 in
set_option maxRecDepth 100000 in
theorem L_isLess {G : mG} {l : Launch} (d : Nat) {h : mH} {y : Int64} {a : Nat} {z : Int} {f : Nat → Int} (I : isI h a 120 z f) (hz : InR z) (hf : ∀ q, InR (f q)) : ∀ (n t : Nat) (o0 : Option Value), t + n = 8 → RUN G l (d + 2) mX9_isLess 2 [some (.long y), none, some (.ref a), some (.int (J (t : Int))), o0] [] h (fun v h' => v = some (.int (J (bz (lessL y z f n t)))) ∧ h' = h) := by
  intro n
  induction n with
  | zero =>
    intro t o0 ht
    refine r_iload_n (pc := 2) dX9_isLess_2 rfl ?_
    refine rj_bipush (pc := 3) dX9_isLess_3 (by decide +kernel) ?_
    refine rj_icmp_gt (pc := 5) (tgt := 47) dX9_isLess_5 (by decide) (by first | exact b01_r | exact bz_r | omega | (constructor <;> omega) | apply_assumption | (apply atF_r; assumption) | fail "no range") (by first | exact b01_r | exact bz_r | omega | (constructor <;> omega) | apply_assumption | (apply atF_r; assumption) | fail "no range") (fun c_5 => ?_) (fun c_5 => ?_)
    · refine rj_iconst (pc := 47) dX9_isLess_47 ?_
      refine r_ireturn (pc := 48) .boolean dX9_isLess_48 rfl (by first | exact nar_J0 | exact nar_J1 | exact nar_b01 | exact nar_bz) ?_
      exact ⟨rfl, rfl⟩
    · exfalso; omega
  | succ n ih =>
    intro t o0 ht
    refine r_iload_n (pc := 2) dX9_isLess_2 rfl ?_
    refine rj_bipush (pc := 3) dX9_isLess_3 (by decide +kernel) ?_
    refine rj_icmp_gt (pc := 5) (tgt := 47) dX9_isLess_5 (by decide) (by first | exact b01_r | exact bz_r | omega | (constructor <;> omega) | apply_assumption | (apply atF_r; assumption) | fail "no range") (by first | exact b01_r | exact bz_r | omega | (constructor <;> omega) | apply_assumption | (apply atF_r; assumption) | fail "no range") (fun c_5 => ?_) (fun c_5 => ?_)
    · refine rj_iconst (pc := 47) dX9_isLess_47 ?_
      refine r_ireturn (pc := 48) .boolean dX9_isLess_48 rfl (by first | exact nar_J0 | exact nar_J1 | exact nar_b01 | exact nar_bz) ?_
      first | (exfalso; omega) | exact ⟨by rw [lessL, if_neg c_22, decide_eq_true (by omega)]; rfl, rfl⟩ | exact ⟨by rw [lessL, if_neg c_22, decide_eq_false (by omega)]; rfl, rfl⟩
    · refine r_lload_n (pc := 8) dX9_isLess_8 rfl ?_
      refine r_iload_n (pc := 9) dX9_isLess_9 rfl ?_
      refine r_callS2 (pc := 10) dX9_isLess_10 qX10_letterOf kX9_176 sX10_letterOf (Nat.le_of_ble_eq_true rfl) (cz_letterOf _ (y := y) (i := (t : Int)) ⟨by omega, by omega⟩) (fun v_10 h_10 q_10 => ?_)
      obtain ⟨rfl, rfl⟩ := q_10
      have ro := letV_r y (t : Int)
      have rat := atF_r (n := 120) (z := z) (i := (t : Int)) hf
      refine r_istore (pc := 13) dX9_isLess_13 (Nat.le_of_ble_eq_true rfl) ?_
      dsimp only [lsSt, List.set, mLs, mEnt]
      refine r_iload (pc := 15) dX9_isLess_15 rfl ?_
      refine r_aload_n (pc := 17) dX9_isLess_17 rfl (by first | rfl | exact isRefV_rf _) ?_
      refine r_iload_n (pc := 18) dX9_isLess_18 rfl ?_
      refine r_callV1 (pc := 19) dX9_isLess_19 qX1_at kX9_147 vX1_at (by first | assumption | exact isI.gx (by assumption) | exact isI.gc (by assumption) | exact isW.gx (by assumption) | exact isW.gF (by assumption) | exact isW.gT (by assumption) (by omega) | exact isW.gS (by assumption) (by omega) | exact isW.gK (by assumption) (by omega) | exact isW.g1 (by assumption) | exact isW.g2 (by assumption) | exact isW.g3 (by assumption) | exact isI.gx (isW.i0 (by assumption)) | exact isI.gc (isW.i0 (by assumption)) | exact isI.gx (isW.i1 (by assumption)) | exact isI.gc (isW.i1 (by assumption)) | exact isI.gx (isW.i2 (by assumption)) | exact isI.gc (isW.i2 (by assumption)) | exact isI.gx (isW.i3 (by assumption)) | exact isI.gc (isW.i3 (by assumption)) | exact isI.gx (isW.i4 (by assumption)) | exact isI.gc (isW.i4 (by assumption)) | exact isI.gx (isW.i5 (by assumption)) | exact isI.gc (isW.i5 (by assumption)) | exact isR.gx (by assumption) | exact isRd.gx (by assumption) | exact isSp.gx (by assumption) | exact isI.gx (isR.i (by assumption)) | exact isI.gx (isRd.i (by assumption)) | exact isI.gc (isRd.i (by assumption)) | exact isI.gx (isSp.i (by assumption)) | exact isW.gx (isR.w (by assumption)) | exact isW.gF (isR.w (by assumption)) | fail "no such object") rfl rfl (Nat.le_of_ble_eq_true rfl) (ci_at _ I (by decide) hz (i := (t : Int)) ⟨by omega, by omega⟩) (fun v_19 h_19 q_19 => ?_)
      obtain ⟨rfl, rfl⟩ := q_19
      refine rj_icmp_eq (pc := 22) (tgt := 41) dX9_isLess_22 (by decide) (by first | exact b01_r | exact bz_r | omega | (constructor <;> omega) | apply_assumption | (apply atF_r; assumption) | fail "no range") (by first | exact b01_r | exact bz_r | omega | (constructor <;> omega) | apply_assumption | (apply atF_r; assumption) | fail "no range") (fun c_22 => ?_) (fun c_22 => ?_)
      · refine rj_iinc (pc := 41) dX9_isLess_41 (Nat.le_of_ble_eq_true rfl) rfl ?_
        dsimp only [lsSt, List.set, mLs, mEnt]
        refine r_goto (pc := 44) (tgt := 2) dX9_isLess_44 (by decide) ?_
        have e1 : ((t + 1 : Nat) : Int) = (t : Int) + 1 := by omega
        have z := fun o0 => ih (t + 1) o0 (by omega)
        simp only [e1] at z
        rw [lessL, if_pos c_22]
        exact z _
      · refine r_iload (pc := 25) dX9_isLess_25 rfl ?_
        refine r_aload_n (pc := 27) dX9_isLess_27 rfl (by first | rfl | exact isRefV_rf _) ?_
        refine r_iload_n (pc := 28) dX9_isLess_28 rfl ?_
        refine r_callV1 (pc := 29) dX9_isLess_29 qX1_at kX9_147 vX1_at (by first | assumption | exact isI.gx (by assumption) | exact isI.gc (by assumption) | exact isW.gx (by assumption) | exact isW.gF (by assumption) | exact isW.gT (by assumption) (by omega) | exact isW.gS (by assumption) (by omega) | exact isW.gK (by assumption) (by omega) | exact isW.g1 (by assumption) | exact isW.g2 (by assumption) | exact isW.g3 (by assumption) | exact isI.gx (isW.i0 (by assumption)) | exact isI.gc (isW.i0 (by assumption)) | exact isI.gx (isW.i1 (by assumption)) | exact isI.gc (isW.i1 (by assumption)) | exact isI.gx (isW.i2 (by assumption)) | exact isI.gc (isW.i2 (by assumption)) | exact isI.gx (isW.i3 (by assumption)) | exact isI.gc (isW.i3 (by assumption)) | exact isI.gx (isW.i4 (by assumption)) | exact isI.gc (isW.i4 (by assumption)) | exact isI.gx (isW.i5 (by assumption)) | exact isI.gc (isW.i5 (by assumption)) | exact isR.gx (by assumption) | exact isRd.gx (by assumption) | exact isSp.gx (by assumption) | exact isI.gx (isR.i (by assumption)) | exact isI.gx (isRd.i (by assumption)) | exact isI.gc (isRd.i (by assumption)) | exact isI.gx (isSp.i (by assumption)) | exact isW.gx (isR.w (by assumption)) | exact isW.gF (isR.w (by assumption)) | fail "no such object") rfl rfl (Nat.le_of_ble_eq_true rfl) (ci_at _ I (by decide) hz (i := (t : Int)) ⟨by omega, by omega⟩) (fun v_29 h_29 q_29 => ?_)
        obtain ⟨rfl, rfl⟩ := q_29
        refine rj_icmp_ge (pc := 32) (tgt := 39) dX9_isLess_32 (by decide) (by first | exact b01_r | exact bz_r | omega | (constructor <;> omega) | apply_assumption | (apply atF_r; assumption) | fail "no range") (by first | exact b01_r | exact bz_r | omega | (constructor <;> omega) | apply_assumption | (apply atF_r; assumption) | fail "no range") (fun c_32 => ?_) (fun c_32 => ?_)
        · refine rj_iconst (pc := 39) dX9_isLess_39 ?_
          refine r_ireturn (pc := 40) .boolean dX9_isLess_40 rfl (by first | exact nar_J0 | exact nar_J1 | exact nar_b01 | exact nar_bz) ?_
          first | (exfalso; omega) | exact ⟨by rw [lessL, if_neg c_22, decide_eq_true (by omega)]; rfl, rfl⟩ | exact ⟨by rw [lessL, if_neg c_22, decide_eq_false (by omega)]; rfl, rfl⟩
        · refine rj_iconst (pc := 35) dX9_isLess_35 ?_
          refine r_goto (pc := 36) (tgt := 40) dX9_isLess_36 (by decide) ?_
          refine r_ireturn (pc := 40) .boolean dX9_isLess_40 rfl (by first | exact nar_J0 | exact nar_J1 | exact nar_b01 | exact nar_bz) ?_
          first | (exfalso; omega) | exact ⟨by rw [lessL, if_neg c_22, decide_eq_true (by omega)]; rfl, rfl⟩ | exact ⟨by rw [lessL, if_neg c_22, decide_eq_false (by omega)]; rfl, rfl⟩
set_option maxHeartbeats 4000000 in
set_option maxRecDepth 100000 in
theorem cz_isLess {G : mG} {l : Launch} (d : Nat) {h : mH} {y : Int64} {a : Nat} {z : Int} {f : Nat → Int} (I : isI h a 120 z f) (hz : InR z) (hf : ∀ q, InR (f q)) : RUNM G l (d + 2) mX9_isLess [.long y, .ref a] h (fun v h' => v = some (.int (J (bz (lessL y z f 8 0)))) ∧ h' = h) := by
  refine RUNM.of (by decide +kernel) (Nat.le_of_ble_eq_true rfl) ?_
  refine rj_iconst (pc := 0) dX9_isLess_0 ?_
  refine r_istore_n (pc := 1) dX9_isLess_1 (Nat.le_of_ble_eq_true rfl) ?_
  dsimp only [lsSt, List.set, mLs, mEnt]
  exact L_isLess d I hz hf 8 0 _ (by omega)
def hfP (c : Nat → Int) (nm : Nat → Int64) (L : Int64 → Bool) (t : Nat) (b : Int) : Prop := c (32 + 3 * t) = 0 ∧ L (nm t) = false ∧ (b < 0 ∨ (nm t).toInt < (nm b.toNat).toInt)
noncomputable def hfL (c : Nat → Int) (nm : Nat → Int64) (L : Int64 → Bool) : Nat → Nat → Int → Int
  | 0, _, b => b
  | n + 1, t, b => hfL c nm L n (t + 1) (if c (32 + 3 * t) = 0 ∧ L (nm t) = false ∧ (b < 0 ∨ (nm t).toInt < (nm b.toNat).toInt) then (t : Int) else b)
set_option maxHeartbeats 4000000 in
set_option maxRecDepth 100000 in
theorem L_heldFrom {G : mG} {l : Launch} (d : Nat) {h : mH} {w : Nat} {c : Nat → Int} {C : Nat → Nat → Int} {nm : Nat → Int64} {g : Nat → Option Nat} (hW : isW h w c C nm g) (hc : ∀ q, InR (c q)) {N : Nat} (hN : c 0 = (N : Int)) (hcap : N ≤ 90) {a : Nat} {z : Int} {f : Nat → Int} (I : isI h a 120 z f) (hz : InR z) (hf : ∀ q, InR (f q)) : ∀ (n t : Nat) (b : Int), t + n = N → -5 ≤ b → b < t → RUN G l (d + 3) mX9_heldFrom 5 [some (.ref w), some (.ref a), some (.int (J b)), some (.int (J (t : Int)))] [] h (fun v h' => v = some (.int (J (hfL c nm (fun y => lessL y z f 8 0) n t b))) ∧ h' = h) := by
  intro n
  induction n with
  | zero =>
    intro t b ht hb1 hb2
    refine r_iload_n (pc := 5) dX9_heldFrom_5 rfl ?_
    refine r_aload_n (pc := 6) dX9_heldFrom_6 rfl (by first | rfl | exact isRefV_rf _) ?_
    refine r_getf (pc := 7) dX9_heldFrom_7 fX9_71 (by first | assumption | exact isI.gx (by assumption) | exact isI.gc (by assumption) | exact isW.gx (by assumption) | exact isW.gF (by assumption) | exact isW.gT (by assumption) (by omega) | exact isW.gS (by assumption) (by omega) | exact isW.gK (by assumption) (by omega) | exact isW.g1 (by assumption) | exact isW.g2 (by assumption) | exact isW.g3 (by assumption) | exact isI.gx (isW.i0 (by assumption)) | exact isI.gc (isW.i0 (by assumption)) | exact isI.gx (isW.i1 (by assumption)) | exact isI.gc (isW.i1 (by assumption)) | exact isI.gx (isW.i2 (by assumption)) | exact isI.gc (isW.i2 (by assumption)) | exact isI.gx (isW.i3 (by assumption)) | exact isI.gc (isW.i3 (by assumption)) | exact isI.gx (isW.i4 (by assumption)) | exact isI.gc (isW.i4 (by assumption)) | exact isI.gx (isW.i5 (by assumption)) | exact isI.gc (isW.i5 (by assumption)) | exact isR.gx (by assumption) | exact isRd.gx (by assumption) | exact isSp.gx (by assumption) | exact isI.gx (isR.i (by assumption)) | exact isI.gx (isRd.i (by assumption)) | exact isI.gc (isRd.i (by assumption)) | exact isI.gx (isSp.i (by assumption)) | exact isW.gx (isR.w (by assumption)) | exact isW.gF (isR.w (by assumption)) | fail "no such object") (by rfl) ?_
    refine rj_icmp_ge (pc := 10) (tgt := 59) dX9_heldFrom_10 (by decide) (by first | exact b01_r | exact bz_r | omega | (constructor <;> omega) | apply_assumption | (apply atF_r; assumption) | fail "no range") (by first | exact b01_r | exact bz_r | omega | (constructor <;> omega) | apply_assumption | (apply atF_r; assumption) | fail "no range") (fun c_10 => ?_) (fun c_10 => ?_)
    · refine r_iload_n (pc := 59) dX9_heldFrom_59 rfl ?_
      refine r_ireturn (pc := 60) .int dX9_heldFrom_60 rfl (by first | rfl | assumption) ?_
      exact ⟨rfl, rfl⟩
    · exfalso; omega
  | succ n ih =>
    intro t b ht hb1 hb2
    have e1 : ((t + 1 : Nat) : Int) = (t : Int) + 1 := by omega
    refine r_iload_n (pc := 5) dX9_heldFrom_5 rfl ?_
    refine r_aload_n (pc := 6) dX9_heldFrom_6 rfl (by first | rfl | exact isRefV_rf _) ?_
    refine r_getf (pc := 7) dX9_heldFrom_7 fX9_71 (by first | assumption | exact isI.gx (by assumption) | exact isI.gc (by assumption) | exact isW.gx (by assumption) | exact isW.gF (by assumption) | exact isW.gT (by assumption) (by omega) | exact isW.gS (by assumption) (by omega) | exact isW.gK (by assumption) (by omega) | exact isW.g1 (by assumption) | exact isW.g2 (by assumption) | exact isW.g3 (by assumption) | exact isI.gx (isW.i0 (by assumption)) | exact isI.gc (isW.i0 (by assumption)) | exact isI.gx (isW.i1 (by assumption)) | exact isI.gc (isW.i1 (by assumption)) | exact isI.gx (isW.i2 (by assumption)) | exact isI.gc (isW.i2 (by assumption)) | exact isI.gx (isW.i3 (by assumption)) | exact isI.gc (isW.i3 (by assumption)) | exact isI.gx (isW.i4 (by assumption)) | exact isI.gc (isW.i4 (by assumption)) | exact isI.gx (isW.i5 (by assumption)) | exact isI.gc (isW.i5 (by assumption)) | exact isR.gx (by assumption) | exact isRd.gx (by assumption) | exact isSp.gx (by assumption) | exact isI.gx (isR.i (by assumption)) | exact isI.gx (isRd.i (by assumption)) | exact isI.gc (isRd.i (by assumption)) | exact isI.gx (isSp.i (by assumption)) | exact isW.gx (isR.w (by assumption)) | exact isW.gF (isR.w (by assumption)) | fail "no such object") (by rfl) ?_
    refine rj_icmp_ge (pc := 10) (tgt := 59) dX9_heldFrom_10 (by decide) (by first | exact b01_r | exact bz_r | omega | (constructor <;> omega) | apply_assumption | (apply atF_r; assumption) | fail "no range") (by first | exact b01_r | exact bz_r | omega | (constructor <;> omega) | apply_assumption | (apply atF_r; assumption) | fail "no range") (fun c_10 => ?_) (fun c_10 => ?_)
    · refine r_iload_n (pc := 59) dX9_heldFrom_59 rfl ?_
      refine r_ireturn (pc := 60) .int dX9_heldFrom_60 rfl (by first | rfl | assumption) ?_
      exfalso; omega
    · refine r_aload_n (pc := 13) dX9_heldFrom_13 rfl (by first | rfl | exact isRefV_rf _) ?_
      refine r_iload_n (pc := 14) dX9_heldFrom_14 rfl ?_
      refine r_callV1 (pc := 15) dX9_heldFrom_15 qX9_isHeld kX9_157 vX9_isHeld (by first | assumption | exact isI.gx (by assumption) | exact isI.gc (by assumption) | exact isW.gx (by assumption) | exact isW.gF (by assumption) | exact isW.gT (by assumption) (by omega) | exact isW.gS (by assumption) (by omega) | exact isW.gK (by assumption) (by omega) | exact isW.g1 (by assumption) | exact isW.g2 (by assumption) | exact isW.g3 (by assumption) | exact isI.gx (isW.i0 (by assumption)) | exact isI.gc (isW.i0 (by assumption)) | exact isI.gx (isW.i1 (by assumption)) | exact isI.gc (isW.i1 (by assumption)) | exact isI.gx (isW.i2 (by assumption)) | exact isI.gc (isW.i2 (by assumption)) | exact isI.gx (isW.i3 (by assumption)) | exact isI.gc (isW.i3 (by assumption)) | exact isI.gx (isW.i4 (by assumption)) | exact isI.gc (isW.i4 (by assumption)) | exact isI.gx (isW.i5 (by assumption)) | exact isI.gc (isW.i5 (by assumption)) | exact isR.gx (by assumption) | exact isRd.gx (by assumption) | exact isSp.gx (by assumption) | exact isI.gx (isR.i (by assumption)) | exact isI.gx (isRd.i (by assumption)) | exact isI.gc (isRd.i (by assumption)) | exact isI.gx (isSp.i (by assumption)) | exact isW.gx (isR.w (by assumption)) | exact isW.gF (isR.w (by assumption)) | fail "no such object") rfl rfl (Nat.le_of_ble_eq_true rfl) (cn_isHeld _ hW hc (t := t) (by omega) (by omega)) (fun v_15 h_15 q_15 => ?_)
      obtain ⟨rfl, rfl⟩ := q_15
      refine rj_if_eq (pc := 18) (tgt := 53) dX9_heldFrom_18 (by decide) (by first | exact b01_r | exact bz_r | omega | (constructor <;> omega) | apply_assumption | (apply atF_r; assumption) | fail "no range") (fun c_18 => ?_) (fun c_18 => ?_)
      · try simp only [b01_0, bz_0, Classical.not_not] at c_18
        refine rj_iinc (pc := 53) dX9_heldFrom_53 (Nat.le_of_ble_eq_true rfl) rfl ?_
        dsimp only [lsSt, List.set, mLs, mEnt]
        refine r_goto (pc := 56) (tgt := 5) dX9_heldFrom_56 (by decide) ?_
        rw [hfL, if_neg (fun g => c_18 g.1)]
        have z := ih (t + 1) b (by omega) (by omega) (by omega)
        rw [e1] at z
        exact z
      · try simp only [b01_0, bz_0, Classical.not_not] at c_18
        refine r_aload_n (pc := 21) dX9_heldFrom_21 rfl (by first | rfl | exact isRefV_rf _) ?_
        refine r_iload_n (pc := 22) dX9_heldFrom_22 rfl ?_
        refine r_callV1 (pc := 23) dX9_heldFrom_23 qX9_nameOf kX9_168 vX9_nameOf (by first | assumption | exact isI.gx (by assumption) | exact isI.gc (by assumption) | exact isW.gx (by assumption) | exact isW.gF (by assumption) | exact isW.gT (by assumption) (by omega) | exact isW.gS (by assumption) (by omega) | exact isW.gK (by assumption) (by omega) | exact isW.g1 (by assumption) | exact isW.g2 (by assumption) | exact isW.g3 (by assumption) | exact isI.gx (isW.i0 (by assumption)) | exact isI.gc (isW.i0 (by assumption)) | exact isI.gx (isW.i1 (by assumption)) | exact isI.gc (isW.i1 (by assumption)) | exact isI.gx (isW.i2 (by assumption)) | exact isI.gc (isW.i2 (by assumption)) | exact isI.gx (isW.i3 (by assumption)) | exact isI.gc (isW.i3 (by assumption)) | exact isI.gx (isW.i4 (by assumption)) | exact isI.gc (isW.i4 (by assumption)) | exact isI.gx (isW.i5 (by assumption)) | exact isI.gc (isW.i5 (by assumption)) | exact isR.gx (by assumption) | exact isRd.gx (by assumption) | exact isSp.gx (by assumption) | exact isI.gx (isR.i (by assumption)) | exact isI.gx (isRd.i (by assumption)) | exact isI.gc (isRd.i (by assumption)) | exact isI.gx (isSp.i (by assumption)) | exact isW.gx (isR.w (by assumption)) | exact isW.gF (isR.w (by assumption)) | fail "no such object") rfl rfl (Nat.le_of_ble_eq_true rfl) (cn_nameOf _ hW hc (t := t) (by omega) (by omega)) (fun v_23 h_23 q_23 => ?_)
        obtain ⟨rfl, rfl⟩ := q_23
        refine r_aload_n (pc := 26) dX9_heldFrom_26 rfl (by first | rfl | exact isRefV_rf _) ?_
        refine r_callS2 (pc := 27) dX9_heldFrom_27 qX9_isLess kX9_172 sX9_isLess (Nat.le_of_ble_eq_true rfl) (cz_isLess _ I hz hf (y := nm t)) (fun v_27 h_27 q_27 => ?_)
        obtain ⟨rfl, rfl⟩ := q_27
        refine rj_if_ne (pc := 30) (tgt := 53) dX9_heldFrom_30 (by decide) (by first | exact b01_r | exact bz_r | omega | (constructor <;> omega) | apply_assumption | (apply atF_r; assumption) | fail "no range") (fun c_30 => ?_) (fun c_30 => ?_)
        · try simp only [b01_0, bz_0, Classical.not_not] at c_30
          refine rj_iinc (pc := 53) dX9_heldFrom_53 (Nat.le_of_ble_eq_true rfl) rfl ?_
          dsimp only [lsSt, List.set, mLs, mEnt]
          refine r_goto (pc := 56) (tgt := 5) dX9_heldFrom_56 (by decide) ?_
          rw [hfL, if_neg (fun g => absurd (g.2.1.symm.trans c_30) (by decide))]
          have z := ih (t + 1) b (by omega) (by omega) (by omega)
          rw [e1] at z
          exact z
        · try simp only [b01_0, bz_0, Classical.not_not] at c_30
          refine r_iload_n (pc := 33) dX9_heldFrom_33 rfl ?_
          refine rj_if_lt (pc := 34) (tgt := 51) dX9_heldFrom_34 (by decide) (by first | exact b01_r | exact bz_r | omega | (constructor <;> omega) | apply_assumption | (apply atF_r; assumption) | fail "no range") (fun c_34 => ?_) (fun c_34 => ?_)
          · refine r_iload_n (pc := 51) dX9_heldFrom_51 rfl ?_
            refine r_istore_n (pc := 52) dX9_heldFrom_52 (Nat.le_of_ble_eq_true rfl) ?_
            dsimp only [lsSt, List.set, mLs, mEnt]
            refine rj_iinc (pc := 53) dX9_heldFrom_53 (Nat.le_of_ble_eq_true rfl) rfl ?_
            dsimp only [lsSt, List.set, mLs, mEnt]
            refine r_goto (pc := 56) (tgt := 5) dX9_heldFrom_56 (by decide) ?_
            rw [hfL, if_pos (⟨c_18, (Bool.not_eq_true _).mp c_30, Or.inl (by omega)⟩)]
            have z := ih (t + 1) (t : Int) (by omega) (by omega) (by omega)
            rw [e1] at z
            exact z
          · refine r_aload_n (pc := 37) dX9_heldFrom_37 rfl (by first | rfl | exact isRefV_rf _) ?_
            refine r_iload_n (pc := 38) dX9_heldFrom_38 rfl ?_
            refine r_callV1 (pc := 39) dX9_heldFrom_39 qX9_nameOf kX9_168 vX9_nameOf (by first | assumption | exact isI.gx (by assumption) | exact isI.gc (by assumption) | exact isW.gx (by assumption) | exact isW.gF (by assumption) | exact isW.gT (by assumption) (by omega) | exact isW.gS (by assumption) (by omega) | exact isW.gK (by assumption) (by omega) | exact isW.g1 (by assumption) | exact isW.g2 (by assumption) | exact isW.g3 (by assumption) | exact isI.gx (isW.i0 (by assumption)) | exact isI.gc (isW.i0 (by assumption)) | exact isI.gx (isW.i1 (by assumption)) | exact isI.gc (isW.i1 (by assumption)) | exact isI.gx (isW.i2 (by assumption)) | exact isI.gc (isW.i2 (by assumption)) | exact isI.gx (isW.i3 (by assumption)) | exact isI.gc (isW.i3 (by assumption)) | exact isI.gx (isW.i4 (by assumption)) | exact isI.gc (isW.i4 (by assumption)) | exact isI.gx (isW.i5 (by assumption)) | exact isI.gc (isW.i5 (by assumption)) | exact isR.gx (by assumption) | exact isRd.gx (by assumption) | exact isSp.gx (by assumption) | exact isI.gx (isR.i (by assumption)) | exact isI.gx (isRd.i (by assumption)) | exact isI.gc (isRd.i (by assumption)) | exact isI.gx (isSp.i (by assumption)) | exact isW.gx (isR.w (by assumption)) | exact isW.gF (isR.w (by assumption)) | fail "no such object") rfl rfl (Nat.le_of_ble_eq_true rfl) (cn_nameOf _ hW hc (t := t) (by omega) (by omega)) (fun v_39 h_39 q_39 => ?_)
            obtain ⟨rfl, rfl⟩ := q_39
            refine r_aload_n (pc := 42) dX9_heldFrom_42 rfl (by first | rfl | exact isRefV_rf _) ?_
            refine r_iload_n (pc := 43) dX9_heldFrom_43 rfl ?_
            obtain ⟨b, rfl⟩ : ∃ q : Nat, b = (q : Int) := ⟨b.toNat, by omega⟩
            refine r_callV1 (pc := 44) dX9_heldFrom_44 qX9_nameOf kX9_168 vX9_nameOf (by first | assumption | exact isI.gx (by assumption) | exact isI.gc (by assumption) | exact isW.gx (by assumption) | exact isW.gF (by assumption) | exact isW.gT (by assumption) (by omega) | exact isW.gS (by assumption) (by omega) | exact isW.gK (by assumption) (by omega) | exact isW.g1 (by assumption) | exact isW.g2 (by assumption) | exact isW.g3 (by assumption) | exact isI.gx (isW.i0 (by assumption)) | exact isI.gc (isW.i0 (by assumption)) | exact isI.gx (isW.i1 (by assumption)) | exact isI.gc (isW.i1 (by assumption)) | exact isI.gx (isW.i2 (by assumption)) | exact isI.gc (isW.i2 (by assumption)) | exact isI.gx (isW.i3 (by assumption)) | exact isI.gc (isW.i3 (by assumption)) | exact isI.gx (isW.i4 (by assumption)) | exact isI.gc (isW.i4 (by assumption)) | exact isI.gx (isW.i5 (by assumption)) | exact isI.gc (isW.i5 (by assumption)) | exact isR.gx (by assumption) | exact isRd.gx (by assumption) | exact isSp.gx (by assumption) | exact isI.gx (isR.i (by assumption)) | exact isI.gx (isRd.i (by assumption)) | exact isI.gc (isRd.i (by assumption)) | exact isI.gx (isSp.i (by assumption)) | exact isW.gx (isR.w (by assumption)) | exact isW.gF (isR.w (by assumption)) | fail "no such object") rfl rfl (Nat.le_of_ble_eq_true rfl) (cn_nameOf _ hW hc (t := b) (by omega) (by omega)) (fun v_44 h_44 q_44 => ?_)
            obtain ⟨rfl, rfl⟩ := q_44
            refine rj_lcmpE (pc := 47) dX9_heldFrom_47 ?_
            have rr := lcV_r (x := nm t) (y := nm b)
            refine rj_if_ge (pc := 48) (tgt := 53) dX9_heldFrom_48 (by decide) (by first | exact b01_r | exact bz_r | omega | (constructor <;> omega) | apply_assumption | (apply atF_r; assumption) | fail "no range") (fun c_48 => ?_) (fun c_48 => ?_)
            · refine rj_iinc (pc := 53) dX9_heldFrom_53 (Nat.le_of_ble_eq_true rfl) rfl ?_
              dsimp only [lsSt, List.set, mLs, mEnt]
              refine r_goto (pc := 56) (tgt := 5) dX9_heldFrom_56 (by decide) ?_
              rw [hfL, if_neg (fun g => g.2.2.elim (fun z => absurd z (by omega)) (fun z => absurd (show lcV (nm t) (nm b) < 0 from lcV_n.mpr z) (by omega)))]
              have z := ih (t + 1) b (by omega) (by omega) (by omega)
              rw [e1] at z
              exact z
            · refine r_iload_n (pc := 51) dX9_heldFrom_51 rfl ?_
              refine r_istore_n (pc := 52) dX9_heldFrom_52 (Nat.le_of_ble_eq_true rfl) ?_
              dsimp only [lsSt, List.set, mLs, mEnt]
              refine rj_iinc (pc := 53) dX9_heldFrom_53 (Nat.le_of_ble_eq_true rfl) rfl ?_
              dsimp only [lsSt, List.set, mLs, mEnt]
              refine r_goto (pc := 56) (tgt := 5) dX9_heldFrom_56 (by decide) ?_
              rw [hfL, if_pos (⟨c_18, (Bool.not_eq_true _).mp c_30, Or.inr (lcV_n.mp (show lcV (nm t) (nm b) < 0 by omega))⟩)]
              have z := ih (t + 1) (t : Int) (by omega) (by omega) (by omega)
              rw [e1] at z
              exact z
set_option maxHeartbeats 4000000 in
set_option maxRecDepth 100000 in
theorem cq_heldFrom {G : mG} {l : Launch} (d : Nat) {h : mH} {w : Nat} {c : Nat → Int} {C : Nat → Nat → Int} {nm : Nat → Int64} {g : Nat → Option Nat} (hW : isW h w c C nm g) (hc : ∀ q, InR (c q)) {N : Nat} (hN : c 0 = (N : Int)) (hcap : N ≤ 90) {a : Nat} {z : Int} {f : Nat → Int} (I : isI h a 120 z f) (hz : InR z) (hf : ∀ q, InR (f q)) : RUNM G l (d + 3) mX9_heldFrom [.ref w, .ref a] h (fun v h' => v = some (.int (J (hfL c nm (fun y => lessL y z f 8 0) N 0 (-5)))) ∧ h' = h) := by
  refine RUNM.of (by decide +kernel) (Nat.le_of_ble_eq_true rfl) ?_
  refine rj_bipush (pc := 0) dX9_heldFrom_0 (by decide +kernel) ?_
  refine r_istore_n (pc := 2) dX9_heldFrom_2 (Nat.le_of_ble_eq_true rfl) ?_
  dsimp only [lsSt, List.set, mLs, mEnt]
  refine rj_iconst (pc := 3) dX9_heldFrom_3 ?_
  refine r_istore_n (pc := 4) dX9_heldFrom_4 (Nat.le_of_ble_eq_true rfl) ?_
  dsimp only [lsSt, List.set, mLs, mEnt]
  exact L_heldFrom d hW hc hN hcap I hz hf N 0 (-5) (by omega) (by omega) (by omega)

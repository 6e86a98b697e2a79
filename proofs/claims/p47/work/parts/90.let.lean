/-! ===== the class: a name's letters ===== -/
noncomputable def letA (y : Int64) (i : Int) : Int := ((y >>> ((J (5 * (6 - i))).toInt64 &&& 63)).toInt32 &&& J 31).toInt
theorem and31 (a : Int32) : (a &&& J 31).toInt = ((a.toBitVec.toNat % 32 : Nat) : Int) := by
  have e : J 31 = (31 : Int32) := by rw [J_def]; decide
  rw [e]
  have e2 : (a &&& (31 : Int32)).toBitVec = a.toBitVec &&& 31#32 := rfl
  have e3 : (a.toBitVec &&& 31#32).toNat = a.toBitVec.toNat % 32 := by
    rw [BitVec.toNat_and]
    exact Nat.and_two_pow_sub_one_eq_mod a.toBitVec.toNat 5
  have e4 : (a &&& (31 : Int32)).toInt = (a.toBitVec &&& 31#32).toInt := by rw [← e2]; rfl
  rw [e4, BitVec.toInt_eq_toNat_of_lt (by rw [e3]; omega), e3]
theorem letA_r (y : Int64) (i : Int) : 0 ≤ letA y i ∧ letA y i ≤ 31 := by
  unfold letA; rw [and31]; omega
noncomputable def letV (y : Int64) (i : Int) : Int := if 0 ≤ i ∧ i < 7 then (if letA y i = 0 then 0 else letA y i + 97 - 1) else 0
theorem letV_r (y : Int64) (i : Int) : 0 ≤ letV y i ∧ letV y i ≤ 127 := by
  have z := letA_r y i
  unfold letV; split
  · split <;> omega
  · omega
set_option maxHeartbeats 4000000 in
set_option maxRecDepth 100000 in
theorem cz_letterOf {G : mG} {l : Launch} (d : Nat) {h : mH} {y : Int64} {i : Int} (hi : InR i) : RUNM G l (d) mX10_letterOf [.long y, .int (J i)] h (fun v h' => v = some (.int (J (letV y i))) ∧ h' = h) := by
  refine RUNM.of (by decide +kernel) (Nat.le_of_ble_eq_true rfl) ?_
  refine r_iload_n (pc := 0) dX10_letterOf_0 rfl ?_
  refine rj_if_lt (pc := 1) (tgt := 10) dX10_letterOf_1 (by decide) (by first | exact b01_r | exact bz_r | omega | (constructor <;> omega) | apply_assumption | (apply atF_r; assumption) | fail "no range") (fun c_1 => ?_) (fun c_1 => ?_)
  · refine rj_iconst (pc := 10) dX10_letterOf_10 ?_
    refine r_ireturn (pc := 11) .int dX10_letterOf_11 rfl (by first | rfl | assumption) ?_
    first | (exfalso; omega) | exact ⟨by unfold letV; rw [if_neg (by omega)], rfl⟩ | exact ⟨by unfold letV; rw [if_pos (by omega), if_pos (by assumption)], rfl⟩ | exact ⟨by unfold letV; rw [if_pos (by omega), if_neg (by assumption)], rfl⟩
  · refine r_iload_n (pc := 4) dX10_letterOf_4 rfl ?_
    refine rj_bipush (pc := 5) dX10_letterOf_5 (by decide +kernel) ?_
    refine rj_icmp_lt (pc := 7) (tgt := 12) dX10_letterOf_7 (by decide) (by first | exact b01_r | exact bz_r | omega | (constructor <;> omega) | apply_assumption | (apply atF_r; assumption) | fail "no range") (by first | exact b01_r | exact bz_r | omega | (constructor <;> omega) | apply_assumption | (apply atF_r; assumption) | fail "no range") (fun c_7 => ?_) (fun c_7 => ?_)
    · refine r_lload_n (pc := 12) dX10_letterOf_12 rfl ?_
      refine rj_iconst (pc := 13) dX10_letterOf_13 ?_
      refine rj_bipush (pc := 14) dX10_letterOf_14 (by decide +kernel) ?_
      refine r_iload_n (pc := 16) dX10_letterOf_16 rfl ?_
      refine rj_isub (pc := 17) dX10_letterOf_17 ?_
      refine rj_imul (pc := 18) dX10_letterOf_18 ?_
      refine r_lshr (pc := 19) dX10_letterOf_19 ?_
      refine r_l2i (pc := 20) dX10_letterOf_20 ?_
      refine rj_bipush (pc := 21) dX10_letterOf_21 (by decide +kernel) ?_
      refine r_iand (pc := 23) dX10_letterOf_23 ?_
      rw [show ((y >>> ((J (5 * (6 - i))).toInt64 &&& 63)).toInt32 &&& J 31) = J (letA y i) from J_of _]
      have ra := letA_r y i
      refine r_istore_n (pc := 24) dX10_letterOf_24 (Nat.le_of_ble_eq_true rfl) ?_
      dsimp only [lsSt, List.set, mLs, mEnt]
      refine r_iload_n (pc := 25) dX10_letterOf_25 rfl ?_
      refine rj_if_ne (pc := 26) (tgt := 33) dX10_letterOf_26 (by decide) (by first | exact b01_r | exact bz_r | omega | (constructor <;> omega) | apply_assumption | (apply atF_r; assumption) | fail "no range") (fun c_26 => ?_) (fun c_26 => ?_)
      · try simp only [b01_0, bz_0, Classical.not_not] at c_26
        refine r_iload_n (pc := 33) dX10_letterOf_33 rfl ?_
        refine rj_bipush (pc := 34) dX10_letterOf_34 (by decide +kernel) ?_
        refine rj_iadd (pc := 36) dX10_letterOf_36 ?_
        refine rj_iconst (pc := 37) dX10_letterOf_37 ?_
        refine rj_isub (pc := 38) dX10_letterOf_38 ?_
        refine r_ireturn (pc := 39) .int dX10_letterOf_39 rfl (by first | rfl | assumption) ?_
        first | (exfalso; omega) | exact ⟨by unfold letV; rw [if_neg (by omega)], rfl⟩ | exact ⟨by unfold letV; rw [if_pos (by omega), if_pos (by assumption)], rfl⟩ | exact ⟨by unfold letV; rw [if_pos (by omega), if_neg (by assumption)], rfl⟩
      · try simp only [b01_0, bz_0, Classical.not_not] at c_26
        refine rj_iconst (pc := 29) dX10_letterOf_29 ?_
        refine r_goto (pc := 30) (tgt := 39) dX10_letterOf_30 (by decide) ?_
        refine r_ireturn (pc := 39) .int dX10_letterOf_39 rfl (by first | rfl | assumption) ?_
        first | (exfalso; omega) | exact ⟨by unfold letV; rw [if_neg (by omega)], rfl⟩ | exact ⟨by unfold letV; rw [if_pos (by omega), if_pos (by assumption)], rfl⟩ | exact ⟨by unfold letV; rw [if_pos (by omega), if_neg (by assumption)], rfl⟩
    · refine rj_iconst (pc := 10) dX10_letterOf_10 ?_
      refine r_ireturn (pc := 11) .int dX10_letterOf_11 rfl (by first | rfl | assumption) ?_
      first | (exfalso; omega) | exact ⟨by unfold letV; rw [if_neg (by omega)], rfl⟩ | exact ⟨by unfold letV; rw [if_pos (by omega), if_pos (by assumption)], rfl⟩ | exact ⟨by unfold letV; rw [if_pos (by omega), if_neg (by assumption)], rfl⟩
noncomputable def lnL (y : Int64) : Nat → Nat → Int
  | 0, t => t
  | n + 1, t => if letV y t = 0 then (t : Int) else lnL y n (t + 1)
set_option maxHeartbeats 4000000 in
set_option maxRecDepth 100000 in
theorem L_lettersOf {G : mG} {l : Launch} (d : Nat) {h : mH} {y : Int64} : ∀ n t : Nat, t + n = 7 → RUN G l (d + 1) mX10_lettersOf 2 [some (.long y), none, some (.int (J (t : Int)))] [] h (fun v h' => v = some (.int (J (lnL y n t))) ∧ h' = h) := by
  intro n
  induction n with
  | zero =>
    intro t ht
    refine r_iload_n (pc := 2) dX10_lettersOf_2 rfl ?_
    refine rj_bipush (pc := 3) dX10_lettersOf_3 (by decide +kernel) ?_
    refine rj_icmp_ge (pc := 5) (tgt := 22) dX10_lettersOf_5 (by decide) (by first | exact b01_r | exact bz_r | omega | (constructor <;> omega) | apply_assumption | (apply atF_r; assumption) | fail "no range") (by first | exact b01_r | exact bz_r | omega | (constructor <;> omega) | apply_assumption | (apply atF_r; assumption) | fail "no range") (fun c_5 => ?_) (fun c_5 => ?_)
    · refine r_iload_n (pc := 22) dX10_lettersOf_22 rfl ?_
      refine r_ireturn (pc := 23) .int dX10_lettersOf_23 rfl (by first | rfl | assumption) ?_
      exact ⟨rfl, rfl⟩
    · exfalso; omega
  | succ n ih =>
    intro t ht
    refine r_iload_n (pc := 2) dX10_lettersOf_2 rfl ?_
    refine rj_bipush (pc := 3) dX10_lettersOf_3 (by decide +kernel) ?_
    refine rj_icmp_ge (pc := 5) (tgt := 22) dX10_lettersOf_5 (by decide) (by first | exact b01_r | exact bz_r | omega | (constructor <;> omega) | apply_assumption | (apply atF_r; assumption) | fail "no range") (by first | exact b01_r | exact bz_r | omega | (constructor <;> omega) | apply_assumption | (apply atF_r; assumption) | fail "no range") (fun c_5 => ?_) (fun c_5 => ?_)
    · refine r_iload_n (pc := 22) dX10_lettersOf_22 rfl ?_
      refine r_ireturn (pc := 23) .int dX10_lettersOf_23 rfl (by first | rfl | assumption) ?_
      first | (exfalso; omega) | exact ⟨by rw [lnL, if_pos c_13], rfl⟩
    · refine r_lload_n (pc := 8) dX10_lettersOf_8 rfl ?_
      refine r_iload_n (pc := 9) dX10_lettersOf_9 rfl ?_
      refine r_callS2 (pc := 10) dX10_lettersOf_10 qX10_letterOf kX10_190 sX10_letterOf (Nat.le_of_ble_eq_true rfl) (cz_letterOf _ (y := y) (i := (t : Int)) ⟨by omega, by omega⟩) (fun v_10 h_10 q_10 => ?_)
      obtain ⟨rfl, rfl⟩ := q_10
      have ro := letV_r y (t : Int)
      refine rj_if_eq (pc := 13) (tgt := 22) dX10_lettersOf_13 (by decide) (by first | exact b01_r | exact bz_r | omega | (constructor <;> omega) | apply_assumption | (apply atF_r; assumption) | fail "no range") (fun c_13 => ?_) (fun c_13 => ?_)
      · try simp only [b01_0, bz_0, Classical.not_not] at c_13
        refine r_iload_n (pc := 22) dX10_lettersOf_22 rfl ?_
        refine r_ireturn (pc := 23) .int dX10_lettersOf_23 rfl (by first | rfl | assumption) ?_
        first | (exfalso; omega) | exact ⟨by rw [lnL, if_pos c_13], rfl⟩
      · try simp only [b01_0, bz_0, Classical.not_not] at c_13
        refine rj_iinc (pc := 16) dX10_lettersOf_16 (Nat.le_of_ble_eq_true rfl) rfl ?_
        dsimp only [lsSt, List.set, mLs, mEnt]
        refine r_goto (pc := 19) (tgt := 2) dX10_lettersOf_19 (by decide) ?_
        have z := ih (t + 1) (by omega)
        rw [show ((t + 1 : Nat) : Int) = (t : Int) + 1 by omega] at z
        rw [lnL, if_neg c_13]
        exact z
set_option maxHeartbeats 4000000 in
set_option maxRecDepth 100000 in
theorem cz_lettersOf {G : mG} {l : Launch} (d : Nat) {h : mH} {y : Int64} : RUNM G l (d + 1) mX10_lettersOf [.long y] h (fun v h' => v = some (.int (J (lnL y 7 0))) ∧ h' = h) := by
  refine RUNM.of (by decide +kernel) (Nat.le_of_ble_eq_true rfl) ?_
  refine rj_iconst (pc := 0) dX10_lettersOf_0 ?_
  refine r_istore_n (pc := 1) dX10_lettersOf_1 (Nat.le_of_ble_eq_true rfl) ?_
  dsimp only [lsSt, List.set, mLs, mEnt]
  exact L_lettersOf d 7 0 (by omega)
noncomputable def lessL (y : Int64) (z : Int) (f : Nat → Int) : Nat → Nat → Bool
  | 0, _ => false
  | n + 1, t => if letV y t = atF 120 z f t then lessL y z f n (t + 1) else decide (letV y t < atF 120 z f t)
def hfP (c : Nat → Int) (nm : Nat → Int64) (L : Int64 → Bool) (t : Nat) (b : Int) : Prop := c (32 + 3 * t) = 0 ∧ L (nm t) = false ∧ (b < 0 ∨ (nm t).toInt < (nm b.toNat).toInt)
noncomputable def hfL (c : Nat → Int) (nm : Nat → Int64) (L : Int64 → Bool) : Nat → Nat → Int → Int
  | 0, _, b => b
  | n + 1, t, b => hfL c nm L n (t + 1) (if c (32 + 3 * t) = 0 ∧ L (nm t) = false ∧ (b < 0 ∨ (nm t).toInt < (nm b.toNat).toInt) then (t : Int) else b)
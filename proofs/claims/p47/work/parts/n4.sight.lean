/-! ===== the law's cell, sight, types (by program) ===== -/
section N4
variable {G : mG} {l : Launch} {x n0 y : Nat} {h : mH} {f4 : Int} {m kpm pool : Nat → Int} {zt : Int} {ft : Nat → Int}
theorem RO.gx (hI : RO x y n0 f4 m kpm pool zt ft h) : ∃ fs, hGet h x = some (.inl (10, fs)) := by
  obtain ⟨f18, pap, rwd, rw, ⟨S, kp, tk, zr, fr, p, e, o, zs, fs, b, fa, c, C, nm, g, hK, -⟩, -⟩ := hI
  exact ⟨_, hK.gx⟩
theorem RO.rows (hI : RO x y n0 f4 m kpm pool zt ft h) : ∃ B T : Int, All m pool B T ∧ poolOk pool ∧ (0 ≤ zt ∧ zt ≤ 120) := by
  obtain ⟨f18, pap, rwd, rw, -, ⟨⟨hA, hPo⟩, hkp, hta, h18, hrw⟩⟩ := hI
  exact ⟨_, _, hA, hPo, hta.1⟩
theorem oa_ctr (hI : RO x y n0 f4 m kpm pool zt ft h) {k : Int} (hk : 0 ≤ k ∧ k ≤ 7) : RUNM G l 1000 mX10_counter [.ref x, .int (J k)] h (fun v h' => v = some (.long (J (m (10 + k).toNat)).toInt64) ∧ h' = h) := by
  have z := oa_counter (G := G) (l := l) hI (a := k) (by constructor <;> omega)
  unfold counterV lgV at z
  rw [if_pos hk] at z
  exact z
theorem told_z {f f' : Int} {N C T : Nat} {k : Int} (hk : k ≤ 7) : toldV m f f' N C T k = toldV m 0 0 N C T k := by
  unfold toldV
  (repeat' split) <;> first | rfl | omega
theorem oa_tld (hI : RO x y n0 f4 m kpm pool zt ft h) {k : Int} (hk : 0 ≤ k ∧ k ≤ 7) : RUNM G l 1000 mX10_told [.ref x, .int (J k)] h (fun v h' => v = some (.int (J (toldV m 0 0 (m 1).toNat (m 0).toNat (m 3).toNat k))) ∧ h' = h) := by
  have z := oa_told (G := G) (l := l) hI (a := k) (by constructor <;> omega) (by omega)
  rw [told_z hk.2] at z
  exact z
/-- a loop that stirs a long -/
def itL (f : Nat → Int64 → Int64) : Nat → Nat → Int64 → Int64
  | 0, _, h => h
  | n + 1, k, h => itL f n (k + 1) (f k h)
noncomputable def sgA (m : Nat → Int) (k : Nat) (h : Int64) : Int64 := 31 * (31 * h + (J (toldV m 0 0 (m 1).toNat (m 0).toNat (m 3).toNat (k : Int))).toInt64) + (J (m (10 + (k : Int)).toNat)).toInt64
noncomputable def sgB (m : Nat → Int) (k : Nat) (h : Int64) : Int64 := 31 * h + (J (logV m (k : Int))).toInt64
noncomputable def sgC (m : Nat → Int) (k : Nat) (h : Int64) : Int64 := 31 * (31 * h + (J (thgV m (k : Int) 0)).toInt64) + (J (thgV m (k : Int) 1)).toInt64
noncomputable def sgD (m : Nat → Int) (k : Nat) (h : Int64) : Int64 := 31 * (31 * h + (J (scopeV m (m 1).toNat (m 0).toNat (k : Int) 0)).toInt64) + (J (scopeV m (m 1).toNat (m 0).toNat (k : Int) 2)).toInt64
/-- what is seen of a keeper -/
noncomputable def sgt (m : Nat → Int) : Int64 := itL (sgD m) (m 0).toNat 0 (itL (sgC m) (m 1).toNat 0 (itL (sgB m) (m 2).toNat 0 (itL (sgA m) 8 0 0)))
set_option maxHeartbeats 4000000 in
theorem L_sg1 (hI : RO x y n0 f4 m kpm pool zt ft h) {Q : Option Value → mH → Prop} (hN : 0 ≤ m 2 ∧ m 2 ≤ 90) (n k : Nat) (X : Int64) (e : ((k + n : Nat) : Int) = 8) (K : RUN G l 1001 mL_sight 41 [some (.ref x), some (.long (itL (sgA m) n k X)), none, some (.int (J (((k + n : Nat) : Int))))] [] h Q) : RUN G l 1001 mL_sight 4 [some (.ref x), some (.long X), none, some (.int (J (k : Int)))] [] h Q := by
  obtain ⟨fs, ho⟩ := hI.gx
  obtain ⟨B0, T0, hA, -, hz⟩ := hI.rows
  have m0 := hA.1.1.1.2.1
  have m1 := hA.1.1.1.2.2.1
  induction n generalizing k X with
  | zero =>
    refine r_iload_n (pc := 4) dL_sight_4 rfl ?_
    refine rj_bipush (pc := 5) dL_sight_5 (by decide +kernel) ?_
    refine rj_icmp_ge (pc := 7) (tgt := 41) dL_sight_7 (by decide) (by first | exact b01_r | exact bz_r | omega | (constructor <;> omega) | apply_assumption | (apply atF_r; assumption) | fail "no range") (by first | exact b01_r | exact bz_r | omega | (constructor <;> omega) | apply_assumption | (apply atF_r; assumption) | fail "no range") (fun c_7 => ?_) (fun c_7 => ?_)
    · exact K
    · exfalso; omega
  | succ n ih =>
    refine r_iload_n (pc := 4) dL_sight_4 rfl ?_
    refine rj_bipush (pc := 5) dL_sight_5 (by decide +kernel) ?_
    refine rj_icmp_ge (pc := 7) (tgt := 41) dL_sight_7 (by decide) (by first | exact b01_r | exact bz_r | omega | (constructor <;> omega) | apply_assumption | (apply atF_r; assumption) | fail "no range") (by first | exact b01_r | exact bz_r | omega | (constructor <;> omega) | apply_assumption | (apply atF_r; assumption) | fail "no range") (fun c_7 => ?_) (fun c_7 => ?_)
    · exfalso; omega
    · refine r_ldc2 (pc := 10) dL_sight_10 oL_41 ?_
      refine r_lload_n (pc := 13) dL_sight_13 rfl ?_
      refine r_lmul (pc := 14) dL_sight_14 ?_
      refine r_aload_n (pc := 15) dL_sight_15 rfl (by first | rfl | exact isRefV_rf _) ?_
      refine r_iload_n (pc := 16) dL_sight_16 rfl ?_
      refine r_callV1 (pc := 17) dL_sight_17 qX10_told kL_43 vX10_told ho rfl rfl (Nat.le_of_ble_eq_true rfl) (oa_tld hI (k := (k : Int)) (by omega)) (fun v_17 h_17 q_17 => ?_)
      obtain ⟨rfl, e_h⟩ := q_17; replace e_h := e_h.symm; subst e_h
      refine r_i2l (pc := 20) dL_sight_20 ?_
      refine r_ladd (pc := 21) dL_sight_21 ?_
      refine r_lstore_n (pc := 22) dL_sight_22 (Nat.le_of_ble_eq_true rfl) ?_
      dsimp only [lsSt, lsSt2, List.set, mLs, mEnt]
      refine r_ldc2 (pc := 23) dL_sight_23 oL_41 ?_
      refine r_lload_n (pc := 26) dL_sight_26 rfl ?_
      refine r_lmul (pc := 27) dL_sight_27 ?_
      refine r_aload_n (pc := 28) dL_sight_28 rfl (by first | rfl | exact isRefV_rf _) ?_
      refine r_iload_n (pc := 29) dL_sight_29 rfl ?_
      refine r_callV1 (pc := 30) dL_sight_30 qX10_counter kL_46 vX10_counter ho rfl rfl (Nat.le_of_ble_eq_true rfl) (oa_ctr hI (k := (k : Int)) (by omega)) (fun v_30 h_30 q_30 => ?_)
      obtain ⟨rfl, e_h⟩ := q_30; replace e_h := e_h.symm; subst e_h
      refine r_ladd (pc := 33) dL_sight_33 ?_
      refine r_lstore_n (pc := 34) dL_sight_34 (Nat.le_of_ble_eq_true rfl) ?_
      dsimp only [lsSt, lsSt2, List.set, mLs, mEnt]
      refine rj_iinc (pc := 35) dL_sight_35 (Nat.le_of_ble_eq_true rfl) rfl ?_
      dsimp only [lsSt, List.set, mLs, mEnt]
      refine r_goto (pc := 38) (tgt := 4) dL_sight_38 (by decide) ?_
      rw [show (k : Int) + 1 = ((k + 1 : Nat) : Int) by omega]
      refine ih (k + 1) _ (by omega) ?_
      rw [show k + 1 + n = k + (n + 1) by omega]
      exact K
set_option maxHeartbeats 4000000 in
theorem L_sg2 (hI : RO x y n0 f4 m kpm pool zt ft h) {Q : Option Value → mH → Prop} (hN : 0 ≤ m 2 ∧ m 2 ≤ 90) (n k : Nat) (X : Int64) (e : ((k + n : Nat) : Int) = m 2) (K : RUN G l 1001 mL_sight 72 [some (.ref x), some (.long (itL (sgB m) n k X)), none, some (.int (J (((k + n : Nat) : Int))))] [] h Q) : RUN G l 1001 mL_sight 43 [some (.ref x), some (.long X), none, some (.int (J (k : Int)))] [] h Q := by
  obtain ⟨fs, ho⟩ := hI.gx
  obtain ⟨B0, T0, hA, -, hz⟩ := hI.rows
  have m0 := hA.1.1.1.2.1
  have m1 := hA.1.1.1.2.2.1
  induction n generalizing k X with
  | zero =>
    refine r_iload_n (pc := 43) dL_sight_43 rfl ?_
    refine r_aload_n (pc := 44) dL_sight_44 rfl (by first | rfl | exact isRefV_rf _) ?_
    refine rj_bipush (pc := 45) dL_sight_45 (by decide +kernel) ?_
    refine r_callV1 (pc := 47) dL_sight_47 qX10_told kL_43 vX10_told ho rfl rfl (Nat.le_of_ble_eq_true rfl) (oa_tld hI (k := 7) (by omega)) (fun v_47 h_47 q_47 => ?_)
    obtain ⟨rfl, e_h⟩ := q_47; replace e_h := e_h.symm; subst e_h
    rw [show toldV m 0 0 (m 1).toNat (m 0).toNat (m 3).toNat 7 = m 2 from rfl]
    refine rj_icmp_ge (pc := 50) (tgt := 72) dL_sight_50 (by decide) (by first | exact b01_r | exact bz_r | omega | (constructor <;> omega) | apply_assumption | (apply atF_r; assumption) | fail "no range") (by first | exact b01_r | exact bz_r | omega | (constructor <;> omega) | apply_assumption | (apply atF_r; assumption) | fail "no range") (fun c_50 => ?_) (fun c_50 => ?_)
    · exact K
    · exfalso; omega
  | succ n ih =>
    refine r_iload_n (pc := 43) dL_sight_43 rfl ?_
    refine r_aload_n (pc := 44) dL_sight_44 rfl (by first | rfl | exact isRefV_rf _) ?_
    refine rj_bipush (pc := 45) dL_sight_45 (by decide +kernel) ?_
    refine r_callV1 (pc := 47) dL_sight_47 qX10_told kL_43 vX10_told ho rfl rfl (Nat.le_of_ble_eq_true rfl) (oa_tld hI (k := 7) (by omega)) (fun v_47 h_47 q_47 => ?_)
    obtain ⟨rfl, e_h⟩ := q_47; replace e_h := e_h.symm; subst e_h
    rw [show toldV m 0 0 (m 1).toNat (m 0).toNat (m 3).toNat 7 = m 2 from rfl]
    refine rj_icmp_ge (pc := 50) (tgt := 72) dL_sight_50 (by decide) (by first | exact b01_r | exact bz_r | omega | (constructor <;> omega) | apply_assumption | (apply atF_r; assumption) | fail "no range") (by first | exact b01_r | exact bz_r | omega | (constructor <;> omega) | apply_assumption | (apply atF_r; assumption) | fail "no range") (fun c_50 => ?_) (fun c_50 => ?_)
    · exfalso; omega
    · refine r_ldc2 (pc := 53) dL_sight_53 oL_41 ?_
      refine r_lload_n (pc := 56) dL_sight_56 rfl ?_
      refine r_lmul (pc := 57) dL_sight_57 ?_
      refine r_aload_n (pc := 58) dL_sight_58 rfl (by first | rfl | exact isRefV_rf _) ?_
      refine r_iload_n (pc := 59) dL_sight_59 rfl ?_
      refine r_callV1 (pc := 60) dL_sight_60 qX10_log kL_50 vX10_log ho rfl rfl (Nat.le_of_ble_eq_true rfl) (oa_log hI (a := (k : Int)) (by constructor <;> omega)) (fun v_60 h_60 q_60 => ?_)
      obtain ⟨rfl, e_h⟩ := q_60; replace e_h := e_h.symm; subst e_h
      refine r_i2l (pc := 63) dL_sight_63 ?_
      refine r_ladd (pc := 64) dL_sight_64 ?_
      refine r_lstore_n (pc := 65) dL_sight_65 (Nat.le_of_ble_eq_true rfl) ?_
      dsimp only [lsSt, lsSt2, List.set, mLs, mEnt]
      refine rj_iinc (pc := 66) dL_sight_66 (Nat.le_of_ble_eq_true rfl) rfl ?_
      dsimp only [lsSt, List.set, mLs, mEnt]
      refine r_goto (pc := 69) (tgt := 43) dL_sight_69 (by decide) ?_
      rw [show (k : Int) + 1 = ((k + 1 : Nat) : Int) by omega]
      refine ih (k + 1) _ (by omega) ?_
      rw [show k + 1 + n = k + (n + 1) by omega]
      exact K
set_option maxHeartbeats 4000000 in
theorem L_sg3 (hI : RO x y n0 f4 m kpm pool zt ft h) {Q : Option Value → mH → Prop} (hN : 0 ≤ m 2 ∧ m 2 ≤ 90) (n k : Nat) (X : Int64) (e : ((k + n : Nat) : Int) = m 1) (K : RUN G l 1001 mL_sight 117 [some (.ref x), some (.long (itL (sgC m) n k X)), none, some (.int (J (((k + n : Nat) : Int))))] [] h Q) : RUN G l 1001 mL_sight 74 [some (.ref x), some (.long X), none, some (.int (J (k : Int)))] [] h Q := by
  obtain ⟨fs, ho⟩ := hI.gx
  obtain ⟨B0, T0, hA, -, hz⟩ := hI.rows
  have m0 := hA.1.1.1.2.1
  have m1 := hA.1.1.1.2.2.1
  induction n generalizing k X with
  | zero =>
    refine r_iload_n (pc := 74) dL_sight_74 rfl ?_
    refine r_aload_n (pc := 75) dL_sight_75 rfl (by first | rfl | exact isRefV_rf _) ?_
    refine rj_iconst (pc := 76) dL_sight_76 ?_
    refine r_callV1 (pc := 77) dL_sight_77 qX10_told kL_43 vX10_told ho rfl rfl (Nat.le_of_ble_eq_true rfl) (oa_tld hI (k := 2) (by omega)) (fun v_77 h_77 q_77 => ?_)
    obtain ⟨rfl, e_h⟩ := q_77; replace e_h := e_h.symm; subst e_h
    rw [show toldV m 0 0 (m 1).toNat (m 0).toNat (m 3).toNat 2 = m 1 from rfl]
    refine rj_icmp_ge (pc := 80) (tgt := 117) dL_sight_80 (by decide) (by first | exact b01_r | exact bz_r | omega | (constructor <;> omega) | apply_assumption | (apply atF_r; assumption) | fail "no range") (by first | exact b01_r | exact bz_r | omega | (constructor <;> omega) | apply_assumption | (apply atF_r; assumption) | fail "no range") (fun c_80 => ?_) (fun c_80 => ?_)
    · exact K
    · exfalso; omega
  | succ n ih =>
    refine r_iload_n (pc := 74) dL_sight_74 rfl ?_
    refine r_aload_n (pc := 75) dL_sight_75 rfl (by first | rfl | exact isRefV_rf _) ?_
    refine rj_iconst (pc := 76) dL_sight_76 ?_
    refine r_callV1 (pc := 77) dL_sight_77 qX10_told kL_43 vX10_told ho rfl rfl (Nat.le_of_ble_eq_true rfl) (oa_tld hI (k := 2) (by omega)) (fun v_77 h_77 q_77 => ?_)
    obtain ⟨rfl, e_h⟩ := q_77; replace e_h := e_h.symm; subst e_h
    rw [show toldV m 0 0 (m 1).toNat (m 0).toNat (m 3).toNat 2 = m 1 from rfl]
    refine rj_icmp_ge (pc := 80) (tgt := 117) dL_sight_80 (by decide) (by first | exact b01_r | exact bz_r | omega | (constructor <;> omega) | apply_assumption | (apply atF_r; assumption) | fail "no range") (by first | exact b01_r | exact bz_r | omega | (constructor <;> omega) | apply_assumption | (apply atF_r; assumption) | fail "no range") (fun c_80 => ?_) (fun c_80 => ?_)
    · exfalso; omega
    · refine r_ldc2 (pc := 83) dL_sight_83 oL_41 ?_
      refine r_lload_n (pc := 86) dL_sight_86 rfl ?_
      refine r_lmul (pc := 87) dL_sight_87 ?_
      refine r_aload_n (pc := 88) dL_sight_88 rfl (by first | rfl | exact isRefV_rf _) ?_
      refine r_iload_n (pc := 89) dL_sight_89 rfl ?_
      refine rj_iconst (pc := 90) dL_sight_90 ?_
      refine r_callV2 (pc := 91) dL_sight_91 qX10_thing kL_53 vX10_thing ho rfl rfl (Nat.le_of_ble_eq_true rfl) (oa_thing hI (a := (k : Int)) (by constructor <;> omega) (i := 0) (by omega)) (fun v_91 h_91 q_91 => ?_)
      obtain ⟨rfl, e_h⟩ := q_91; replace e_h := e_h.symm; subst e_h
      refine r_i2l (pc := 94) dL_sight_94 ?_
      refine r_ladd (pc := 95) dL_sight_95 ?_
      refine r_lstore_n (pc := 96) dL_sight_96 (Nat.le_of_ble_eq_true rfl) ?_
      dsimp only [lsSt, lsSt2, List.set, mLs, mEnt]
      refine r_ldc2 (pc := 97) dL_sight_97 oL_41 ?_
      refine r_lload_n (pc := 100) dL_sight_100 rfl ?_
      refine r_lmul (pc := 101) dL_sight_101 ?_
      refine r_aload_n (pc := 102) dL_sight_102 rfl (by first | rfl | exact isRefV_rf _) ?_
      refine r_iload_n (pc := 103) dL_sight_103 rfl ?_
      refine rj_iconst (pc := 104) dL_sight_104 ?_
      refine r_callV2 (pc := 105) dL_sight_105 qX10_thing kL_53 vX10_thing ho rfl rfl (Nat.le_of_ble_eq_true rfl) (oa_thing hI (a := (k : Int)) (by constructor <;> omega) (i := 1) (by omega)) (fun v_105 h_105 q_105 => ?_)
      obtain ⟨rfl, e_h⟩ := q_105; replace e_h := e_h.symm; subst e_h
      refine r_i2l (pc := 108) dL_sight_108 ?_
      refine r_ladd (pc := 109) dL_sight_109 ?_
      refine r_lstore_n (pc := 110) dL_sight_110 (Nat.le_of_ble_eq_true rfl) ?_
      dsimp only [lsSt, lsSt2, List.set, mLs, mEnt]
      refine rj_iinc (pc := 111) dL_sight_111 (Nat.le_of_ble_eq_true rfl) rfl ?_
      dsimp only [lsSt, List.set, mLs, mEnt]
      refine r_goto (pc := 114) (tgt := 74) dL_sight_114 (by decide) ?_
      rw [show (k : Int) + 1 = ((k + 1 : Nat) : Int) by omega]
      refine ih (k + 1) _ (by omega) ?_
      rw [show k + 1 + n = k + (n + 1) by omega]
      exact K
set_option maxHeartbeats 4000000 in
theorem L_sg4 (hI : RO x y n0 f4 m kpm pool zt ft h) {Q : Option Value → mH → Prop} (hN : 0 ≤ m 2 ∧ m 2 ≤ 90) (n k : Nat) (X : Int64) (e : ((k + n : Nat) : Int) = m 0) (K : RUN G l 1001 mL_sight 162 [some (.ref x), some (.long (itL (sgD m) n k X)), none, some (.int (J (((k + n : Nat) : Int))))] [] h Q) : RUN G l 1001 mL_sight 119 [some (.ref x), some (.long X), none, some (.int (J (k : Int)))] [] h Q := by
  obtain ⟨fs, ho⟩ := hI.gx
  obtain ⟨B0, T0, hA, -, hz⟩ := hI.rows
  have m0 := hA.1.1.1.2.1
  have m1 := hA.1.1.1.2.2.1
  induction n generalizing k X with
  | zero =>
    refine r_iload_n (pc := 119) dL_sight_119 rfl ?_
    refine r_aload_n (pc := 120) dL_sight_120 rfl (by first | rfl | exact isRefV_rf _) ?_
    refine rj_iconst (pc := 121) dL_sight_121 ?_
    refine r_callV1 (pc := 122) dL_sight_122 qX10_told kL_43 vX10_told ho rfl rfl (Nat.le_of_ble_eq_true rfl) (oa_tld hI (k := 0) (by omega)) (fun v_122 h_122 q_122 => ?_)
    obtain ⟨rfl, e_h⟩ := q_122; replace e_h := e_h.symm; subst e_h
    rw [show toldV m 0 0 (m 1).toNat (m 0).toNat (m 3).toNat 0 = m 0 from rfl]
    refine rj_icmp_ge (pc := 125) (tgt := 162) dL_sight_125 (by decide) (by first | exact b01_r | exact bz_r | omega | (constructor <;> omega) | apply_assumption | (apply atF_r; assumption) | fail "no range") (by first | exact b01_r | exact bz_r | omega | (constructor <;> omega) | apply_assumption | (apply atF_r; assumption) | fail "no range") (fun c_125 => ?_) (fun c_125 => ?_)
    · exact K
    · exfalso; omega
  | succ n ih =>
    refine r_iload_n (pc := 119) dL_sight_119 rfl ?_
    refine r_aload_n (pc := 120) dL_sight_120 rfl (by first | rfl | exact isRefV_rf _) ?_
    refine rj_iconst (pc := 121) dL_sight_121 ?_
    refine r_callV1 (pc := 122) dL_sight_122 qX10_told kL_43 vX10_told ho rfl rfl (Nat.le_of_ble_eq_true rfl) (oa_tld hI (k := 0) (by omega)) (fun v_122 h_122 q_122 => ?_)
    obtain ⟨rfl, e_h⟩ := q_122; replace e_h := e_h.symm; subst e_h
    rw [show toldV m 0 0 (m 1).toNat (m 0).toNat (m 3).toNat 0 = m 0 from rfl]
    refine rj_icmp_ge (pc := 125) (tgt := 162) dL_sight_125 (by decide) (by first | exact b01_r | exact bz_r | omega | (constructor <;> omega) | apply_assumption | (apply atF_r; assumption) | fail "no range") (by first | exact b01_r | exact bz_r | omega | (constructor <;> omega) | apply_assumption | (apply atF_r; assumption) | fail "no range") (fun c_125 => ?_) (fun c_125 => ?_)
    · exfalso; omega
    · refine r_ldc2 (pc := 128) dL_sight_128 oL_41 ?_
      refine r_lload_n (pc := 131) dL_sight_131 rfl ?_
      refine r_lmul (pc := 132) dL_sight_132 ?_
      refine r_aload_n (pc := 133) dL_sight_133 rfl (by first | rfl | exact isRefV_rf _) ?_
      refine r_iload_n (pc := 134) dL_sight_134 rfl ?_
      refine rj_iconst (pc := 135) dL_sight_135 ?_
      refine r_callV2 (pc := 136) dL_sight_136 qX10_scope kL_57 vX10_scope ho rfl rfl (Nat.le_of_ble_eq_true rfl) (oa_scope hI (a := (k : Int)) (by constructor <;> omega) (i := 0) (by constructor <;> omega)) (fun v_136 h_136 q_136 => ?_)
      obtain ⟨rfl, e_h⟩ := q_136; replace e_h := e_h.symm; subst e_h
      refine r_i2l (pc := 139) dL_sight_139 ?_
      refine r_ladd (pc := 140) dL_sight_140 ?_
      refine r_lstore_n (pc := 141) dL_sight_141 (Nat.le_of_ble_eq_true rfl) ?_
      dsimp only [lsSt, lsSt2, List.set, mLs, mEnt]
      refine r_ldc2 (pc := 142) dL_sight_142 oL_41 ?_
      refine r_lload_n (pc := 145) dL_sight_145 rfl ?_
      refine r_lmul (pc := 146) dL_sight_146 ?_
      refine r_aload_n (pc := 147) dL_sight_147 rfl (by first | rfl | exact isRefV_rf _) ?_
      refine r_iload_n (pc := 148) dL_sight_148 rfl ?_
      refine rj_iconst (pc := 149) dL_sight_149 ?_
      refine r_callV2 (pc := 150) dL_sight_150 qX10_scope kL_57 vX10_scope ho rfl rfl (Nat.le_of_ble_eq_true rfl) (oa_scope hI (a := (k : Int)) (by constructor <;> omega) (i := 2) (by constructor <;> omega)) (fun v_150 h_150 q_150 => ?_)
      obtain ⟨rfl, e_h⟩ := q_150; replace e_h := e_h.symm; subst e_h
      refine r_i2l (pc := 153) dL_sight_153 ?_
      refine r_ladd (pc := 154) dL_sight_154 ?_
      refine r_lstore_n (pc := 155) dL_sight_155 (Nat.le_of_ble_eq_true rfl) ?_
      dsimp only [lsSt, lsSt2, List.set, mLs, mEnt]
      refine rj_iinc (pc := 156) dL_sight_156 (Nat.le_of_ble_eq_true rfl) rfl ?_
      dsimp only [lsSt, List.set, mLs, mEnt]
      refine r_goto (pc := 159) (tgt := 119) dL_sight_159 (by decide) ?_
      rw [show (k : Int) + 1 = ((k + 1 : Nat) : Int) by omega]
      refine ih (k + 1) _ (by omega) ?_
      rw [show k + 1 + n = k + (n + 1) by omega]
      exact K
set_option maxHeartbeats 4000000 in
theorem L_sge (hI : RO x y n0 f4 m kpm pool zt ft h) (m2 : 0 ≤ m 2 ∧ m 2 ≤ 90) (X Y : Int64) {k : Int} (e : X = itL (sgD m) (m 0).toNat 0 (itL (sgC m) (m 1).toNat 0 (itL (sgB m) (m 2).toNat 0 (itL (sgA m) 8 0 0)))) (e2 : Y = sgt m) : RUN G l 1001 mL_sight 162 [some (.ref x), some (.long X), none, some (.int (J k))] [] h (fun v h' => v = some (.long Y) ∧ h' = h) := by
  obtain ⟨B0, T0, hA, -, hz⟩ := hI.rows
  have m0 := hA.1.1.1.2.1
  have m1 := hA.1.1.1.2.2.1
  refine r_lload_n (pc := 162) dL_sight_162 rfl ?_
  refine r_lreturn (pc := 163) dL_sight_163 rfl ?_
  exact ⟨by rw [e, e2]; rfl, rfl⟩
set_option maxHeartbeats 4000000 in
theorem L_sgd (hI : RO x y n0 f4 m kpm pool zt ft h) (m2 : 0 ≤ m 2 ∧ m 2 ≤ 90) (X Y : Int64) {k : Int} (e : X = itL (sgC m) (m 1).toNat 0 (itL (sgB m) (m 2).toNat 0 (itL (sgA m) 8 0 0))) (e2 : Y = sgt m) : RUN G l 1001 mL_sight 117 [some (.ref x), some (.long X), none, some (.int (J k))] [] h (fun v h' => v = some (.long Y) ∧ h' = h) := by
  obtain ⟨B0, T0, hA, -, hz⟩ := hI.rows
  have m0 := hA.1.1.1.2.1
  have m1 := hA.1.1.1.2.2.1
  refine rj_iconst (pc := 117) dL_sight_117 ?_
  refine r_istore_n (pc := 118) dL_sight_118 (Nat.le_of_ble_eq_true rfl) ?_
  dsimp only [lsSt, List.set, mLs, mEnt]
  exact L_sg4 hI m2 (m 0).toNat 0 _ (by omega) (L_sge hI m2 _ _ (by rw [e]) e2)
set_option maxHeartbeats 4000000 in
theorem L_sgc (hI : RO x y n0 f4 m kpm pool zt ft h) (m2 : 0 ≤ m 2 ∧ m 2 ≤ 90) (X Y : Int64) {k : Int} (e : X = itL (sgB m) (m 2).toNat 0 (itL (sgA m) 8 0 0)) (e2 : Y = sgt m) : RUN G l 1001 mL_sight 72 [some (.ref x), some (.long X), none, some (.int (J k))] [] h (fun v h' => v = some (.long Y) ∧ h' = h) := by
  obtain ⟨B0, T0, hA, -, hz⟩ := hI.rows
  have m0 := hA.1.1.1.2.1
  have m1 := hA.1.1.1.2.2.1
  refine rj_iconst (pc := 72) dL_sight_72 ?_
  refine r_istore_n (pc := 73) dL_sight_73 (Nat.le_of_ble_eq_true rfl) ?_
  dsimp only [lsSt, List.set, mLs, mEnt]
  exact L_sg3 hI m2 (m 1).toNat 0 _ (by omega) (L_sgd hI m2 _ _ (by rw [e]) e2)
set_option maxHeartbeats 4000000 in
theorem L_sgb (hI : RO x y n0 f4 m kpm pool zt ft h) (m2 : 0 ≤ m 2 ∧ m 2 ≤ 90) (X Y : Int64) {k : Int} (e : X = itL (sgA m) 8 0 0) (e2 : Y = sgt m) : RUN G l 1001 mL_sight 41 [some (.ref x), some (.long X), none, some (.int (J k))] [] h (fun v h' => v = some (.long Y) ∧ h' = h) := by
  obtain ⟨B0, T0, hA, -, hz⟩ := hI.rows
  have m0 := hA.1.1.1.2.1
  have m1 := hA.1.1.1.2.2.1
  refine rj_iconst (pc := 41) dL_sight_41 ?_
  refine r_istore_n (pc := 42) dL_sight_42 (Nat.le_of_ble_eq_true rfl) ?_
  dsimp only [lsSt, List.set, mLs, mEnt]
  exact L_sg2 hI m2 (m 2).toNat 0 _ (by omega) (L_sgc hI m2 _ _ (by rw [e]) e2)
set_option maxHeartbeats 4000000 in
theorem jl_sight (hI : RO x y n0 f4 m kpm pool zt ft h) : RUNM G l 1001 mL_sight [.ref x] h (fun v h' => v = some (.long (sgt m)) ∧ h' = h) := by
  obtain ⟨B0, T0, hA, -, hz⟩ := hI.rows
  have m0 := hA.1.1.1.2.1
  have m1 := hA.1.1.1.2.2.1
  have m2 : 0 ≤ m 2 ∧ m 2 ≤ 90 := by
    have z1 := hA.1.1.2.2.2.1.1
    have z2 := cnt_r (clsB m) (m 1).toNat
    omega
  refine RUNM.of (by decide +kernel) (Nat.le_of_ble_eq_true rfl) ?_
  refine r_lconst (pc := 0) (v := 0) dL_sight_0 (by decide) ?_
  refine r_lstore_n (pc := 1) dL_sight_1 (Nat.le_of_ble_eq_true rfl) ?_
  dsimp only [lsSt, lsSt2, List.set, mLs, mEnt]
  refine rj_iconst (pc := 2) dL_sight_2 ?_
  refine r_istore_n (pc := 3) dL_sight_3 (Nat.le_of_ble_eq_true rfl) ?_
  dsimp only [lsSt, List.set, mLs, mEnt]
  exact L_sg1 hI m2 8 0 0 rfl (L_sgb hI m2 _ _ rfl rfl)
set_option maxHeartbeats 4000000 in
theorem jl_cell (d : Nat) {b L : Nat} {f : Nat → Int32} (ho : hGet h b = some (.inr (.inl (L, f)))) (hL : L ≤ 3072) {k : Int} (hk : 0 ≤ k ∧ k ≤ 40) : RUNM G l d mL_cell [.ref b, .int (J k)] h (fun v h' => (∃ X : Int32, v = some (.int X)) ∧ h' = h) := by
  refine RUNM.of (by decide +kernel) (Nat.le_of_ble_eq_true rfl) ?_
  refine rj_ldc 69069 (pc := 0) dL_cell_0 oL_7 (by decide +kernel) ?_
  refine r_iload_n (pc := 2) dL_cell_2 rfl ?_
  refine r_aload_n (pc := 3) dL_cell_3 rfl (by first | rfl | exact isRefV_rf _) ?_
  refine rj_alen (pc := 4) dL_cell_4 ho ?_
  refine rj_icmp_ge (pc := 5) (tgt := 14) dL_cell_5 (by decide) (by first | exact b01_r | exact bz_r | omega | (constructor <;> omega) | apply_assumption | (apply atF_r; assumption) | fail "no range") (by first | exact b01_r | exact bz_r | omega | (constructor <;> omega) | apply_assumption | (apply atF_r; assumption) | fail "no range") (fun c_5 => ?_) (fun c_5 => ?_)
  · refine rj_iconst (pc := 14) dL_cell_14 ?_
    refine rj_sipush (pc := 15) dL_cell_15 (by decide +kernel) ?_
    refine r_iload_n (pc := 18) dL_cell_18 rfl ?_
    refine rj_imul (pc := 19) dL_cell_19 ?_
    refine r_iadd (pc := 20) dL_cell_20 ?_
    refine r_imul (pc := 21) dL_cell_21 ?_
    refine rj_sipush (pc := 22) dL_cell_22 (by decide +kernel) ?_
    refine r_iadd (pc := 25) dL_cell_25 ?_
    refine r_istore_n (pc := 26) dL_cell_26 (Nat.le_of_ble_eq_true rfl) ?_
    dsimp only [lsSt, List.set, mLs, mEnt]
    refine r_iload_n (pc := 27) dL_cell_27 rfl ?_
    refine r_iload_n (pc := 28) dL_cell_28 rfl ?_
    refine rj_bipush (pc := 29) dL_cell_29 (by decide +kernel) ?_
    refine r_iushr (pc := 31) dL_cell_31 rfl ?_
    refine r_ixor (pc := 32) dL_cell_32 ?_
    refine rj_ldc 1103515245 (pc := 33) dL_cell_33 oL_8 (by decide +kernel) ?_
    refine r_imul (pc := 35) dL_cell_35 ?_
    refine r_istore_n (pc := 36) dL_cell_36 (Nat.le_of_ble_eq_true rfl) ?_
    dsimp only [lsSt, List.set, mLs, mEnt]
    refine r_iload_n (pc := 37) dL_cell_37 rfl ?_
    refine r_iload_n (pc := 38) dL_cell_38 rfl ?_
    refine rj_bipush (pc := 39) dL_cell_39 (by decide +kernel) ?_
    refine r_iushr (pc := 41) dL_cell_41 rfl ?_
    refine r_ixor (pc := 42) dL_cell_42 ?_
    refine r_ireturn (pc := 43) .int dL_cell_43 rfl (by first | rfl | assumption) ?_
    exact ⟨⟨_, rfl⟩, rfl⟩
  · refine r_aload_n (pc := 8) dL_cell_8 rfl (by first | rfl | exact isRefV_rf _) ?_
    refine r_iload_n (pc := 9) dL_cell_9 rfl ?_
    refine r_iald (pc := 10) dL_cell_10 ho (J_in (by constructor <;> omega) (by omega) (by omega)) ?_
    refine r_goto (pc := 11) (tgt := 15) dL_cell_11 (by decide) ?_
    refine rj_sipush (pc := 15) dL_cell_15 (by decide +kernel) ?_
    refine r_iload_n (pc := 18) dL_cell_18 rfl ?_
    refine rj_imul (pc := 19) dL_cell_19 ?_
    refine r_iadd (pc := 20) dL_cell_20 ?_
    refine r_imul (pc := 21) dL_cell_21 ?_
    refine rj_sipush (pc := 22) dL_cell_22 (by decide +kernel) ?_
    refine r_iadd (pc := 25) dL_cell_25 ?_
    refine r_istore_n (pc := 26) dL_cell_26 (Nat.le_of_ble_eq_true rfl) ?_
    dsimp only [lsSt, List.set, mLs, mEnt]
    refine r_iload_n (pc := 27) dL_cell_27 rfl ?_
    refine r_iload_n (pc := 28) dL_cell_28 rfl ?_
    refine rj_bipush (pc := 29) dL_cell_29 (by decide +kernel) ?_
    refine r_iushr (pc := 31) dL_cell_31 rfl ?_
    refine r_ixor (pc := 32) dL_cell_32 ?_
    refine rj_ldc 1103515245 (pc := 33) dL_cell_33 oL_8 (by decide +kernel) ?_
    refine r_imul (pc := 35) dL_cell_35 ?_
    refine r_istore_n (pc := 36) dL_cell_36 (Nat.le_of_ble_eq_true rfl) ?_
    dsimp only [lsSt, List.set, mLs, mEnt]
    refine r_iload_n (pc := 37) dL_cell_37 rfl ?_
    refine r_iload_n (pc := 38) dL_cell_38 rfl ?_
    refine rj_bipush (pc := 39) dL_cell_39 (by decide +kernel) ?_
    refine r_iushr (pc := 41) dL_cell_41 rfl ?_
    refine r_ixor (pc := 42) dL_cell_42 ?_
    refine r_ireturn (pc := 43) .int dL_cell_43 rfl (by first | rfl | assumption) ?_
    exact ⟨⟨_, rfl⟩, rfl⟩
theorem and_11 : J 1 &&& J 1 = J 1 := by rw [J_def]; decide +kernel
theorem rj_and1 {d : Nat} {M : mM} {pc : Nat} {ls : List (Option Value)} {st : List Value} {Q : Option Value → mH → Prop} (hdg : decode M.2.1 pc = .ok (.iand, 1)) (K : RUN G l d M (pc + 1) ls (.int (J 1) :: st) h Q) : RUN G l d M pc ls (.int (J 1) :: .int (J 1) :: st) h Q := r_iand hdg (by rw [and_11]; exact K)
theorem Same.own {h' : mH} {p w : Nat} {t : List Int} (hS : Same (kBlk x) h h') (hp : x + 196 ≤ p ∧ x + 196 ≤ w) (k : isOwn h p w t) : isOwn h' p w t := k.kp (Old.of hS) (by unfold kBlk; omega) (by unfold kBlk; omega)
theorem Same.trK {h1 h2 : mH} (a : Same (kBlk x) h h1) (b : Same (kBlk x) h1 h2) : Same (kBlk x) h h2 := ⟨b.1.trans a.1, b.2.1.trans a.2.1, b.2.2.1.trans a.2.2.1, fun q hq => (b.2.2.2 q hq).trans (a.2.2.2 q hq)⟩
set_option maxHeartbeats 4000000 in
theorem L_typ (hG : G.2.map Prod.snd = mTy) (hn0 : n0 ≤ 600) {p w : Nat} {t : List Int} (hp : x + 196 ≤ p ∧ x + 196 ≤ w) (ht : ∀ c ∈ t, 1 ≤ c ∧ c ≤ 127) (hl : t.length ≤ 100) : ∀ (n k : Nat) {h : mH} {ft : Nat → Int}, k + n = t.length → RO x y n0 f4 m kpm pool (k : Int) ft h → isOwn h p w t → (∀ j, j < k → ft j = t.getD j 0) → RUN G l 1001 mL_types 4 [some (.ref x), some (.ref p), some (.int (J 1)), some (.int (J (k : Int)))] [] h (fun v h' => v = some (.int (J 1)) ∧ ∃ ft', RO x y n0 f4 m kpm pool (t.length : Int) ft' h' ∧ (∀ j, j < t.length → ft' j = t.getD j 0) ∧ Same (kBlk x) h h') := by
  have hto : tOk t := fun c hc => ⟨by have := ht c hc; omega, (ht c hc).2⟩
  intro n
  induction n with
  | zero =>
    intro k h ft e hI hS hf
    refine r_iload_n (pc := 4) dL_types_4 rfl ?_
    refine r_aload_n (pc := 5) dL_types_5 rfl (by first | rfl | exact isRefV_rf _) ?_
    refine r_callVx (C := "java/lang/String") (pc := 6) dL_types_6 qJ0_length_8abf5 kL_9 ⟨vJ0_length_8abf5.1, vJ0_length_8abf5.2⟩ (As := []) rfl (fun hK hH => str_recv (isS.v (Or.inr hS)) hK hH) rfl (Nat.le_of_ble_eq_true rfl) (jk_length 999 (isS.v (Or.inr hS))) (fun v_6 h_6 q_6 => ?_)
    obtain ⟨rfl, e_h⟩ := q_6; replace e_h := e_h.symm; subst e_h
    refine rj_icmp_ge (pc := 9) (tgt := 41) dL_types_9 (by decide) (by first | exact b01_r | exact bz_r | omega | (constructor <;> omega) | apply_assumption | (apply atF_r; assumption) | fail "no range") (by first | exact b01_r | exact bz_r | omega | (constructor <;> omega) | apply_assumption | (apply atF_r; assumption) | fail "no range") (fun c_9 => ?_) (fun c_9 => ?_)
    · refine r_iload_n (pc := 41) dL_types_41 rfl ?_
      refine r_ireturn (pc := 42) .boolean dL_types_42 rfl (by first | exact nar_J0 | exact nar_J1 | exact nar_b01 | exact nar_bz) ?_
      exact ⟨rfl, ft, by rw [← show k = t.length by omega]; exact hI, fun j hj => hf j (by omega), Same.refl⟩
    · exfalso; omega
  | succ n ih =>
    intro k h ft e hI hS hf
    refine r_iload_n (pc := 4) dL_types_4 rfl ?_
    refine r_aload_n (pc := 5) dL_types_5 rfl (by first | rfl | exact isRefV_rf _) ?_
    refine r_callVx (C := "java/lang/String") (pc := 6) dL_types_6 qJ0_length_8abf5 kL_9 ⟨vJ0_length_8abf5.1, vJ0_length_8abf5.2⟩ (As := []) rfl (fun hK hH => str_recv (isS.v (Or.inr hS)) hK hH) rfl (Nat.le_of_ble_eq_true rfl) (jk_length 999 (isS.v (Or.inr hS))) (fun v_6 h_6 q_6 => ?_)
    obtain ⟨rfl, e_h⟩ := q_6; replace e_h := e_h.symm; subst e_h
    refine rj_icmp_ge (pc := 9) (tgt := 41) dL_types_9 (by decide) (by first | exact b01_r | exact bz_r | omega | (constructor <;> omega) | apply_assumption | (apply atF_r; assumption) | fail "no range") (by first | exact b01_r | exact bz_r | omega | (constructor <;> omega) | apply_assumption | (apply atF_r; assumption) | fail "no range") (fun c_9 => ?_) (fun c_9 => ?_)
    · exfalso; omega
    · refine r_iload_n (pc := 12) dL_types_12 rfl ?_
      refine r_aload_n (pc := 13) dL_types_13 rfl (by first | rfl | exact isRefV_rf _) ?_
      refine r_aload_n (pc := 14) dL_types_14 rfl (by first | rfl | exact isRefV_rf _) ?_
      refine r_iload_n (pc := 15) dL_types_15 rfl ?_
      refine r_callVx (C := "java/lang/String") (pc := 16) dL_types_16 qJ0_charAt_5068e kL_15 ⟨vJ0_charAt_5068e.1, vJ0_charAt_5068e.2⟩ (As := [.int (J (k : Int))]) rfl (fun hK hH => str_recv (isS.v (Or.inr hS)) hK hH) rfl (Nat.le_of_ble_eq_true rfl) (jk_charAt 997 (isS.v (Or.inr hS)) hto (by omega) (by constructor <;> omega) (by constructor <;> omega)) (fun v_16 h_16 q_16 => ?_)
      obtain ⟨rfl, e_h⟩ := q_16; replace e_h := e_h.symm; subst e_h
      have hc1 : 1 ≤ t.getD ((k : Int)).toNat 0 ∧ t.getD ((k : Int)).toNat 0 ≤ 127 := by
        rw [show ((k : Int)).toNat = k by omega, List.getD_eq_getElem?_getD, List.getElem?_eq_getElem (by omega)]
        exact ht _ (List.getElem_mem _)
      obtain ⟨fs, ho⟩ := hI.gx
      refine r_callV1 (pc := 19) dL_types_19 qX10_feed kL_19 vX10_feed ho rfl rfl (Nat.le_of_ble_eq_true rfl) (oc_feed hG hn0 hI (a := t.getD ((k : Int)).toNat 0) (by constructor <;> omega)) (fun v_19 h_19 q_19 => ?_)
      obtain ⟨z1, g4, m1, kp1, po1, zt1, ft1, rfl, R_19, I_19, F_19, -⟩ := q_19
      obtain ⟨rfl, rfl, rfl, rfl, rfl, rfl, rfl⟩ := R_19 ⟨hc1, by omega⟩
      refine r_iload_n (pc := 22) dL_types_22 rfl ?_
      refine rj_iconst (pc := 23) dL_types_23 ?_
      refine rj_iadd (pc := 24) dL_types_24 ?_
      refine rj_icmp_ne (pc := 25) (tgt := 32) dL_types_25 (by decide) (by first | exact b01_r | exact bz_r | omega | (constructor <;> omega) | apply_assumption | (apply atF_r; assumption) | fail "no range") (by first | exact b01_r | exact bz_r | omega | (constructor <;> omega) | apply_assumption | (apply atF_r; assumption) | fail "no range") (fun c_25 => ?_) (fun c_25 => ?_)
      · exfalso; omega
      · refine rj_iconst (pc := 28) dL_types_28 ?_
        refine r_goto (pc := 29) (tgt := 33) dL_types_29 (by decide) ?_
        refine rj_and1 (pc := 33) dL_types_33 ?_
        refine r_istore_n (pc := 34) dL_types_34 (Nat.le_of_ble_eq_true rfl) ?_
        dsimp only [lsSt, List.set, mLs, mEnt]
        refine rj_iinc (pc := 35) dL_types_35 (Nat.le_of_ble_eq_true rfl) rfl ?_
        dsimp only [lsSt, List.set, mLs, mEnt]
        refine r_goto (pc := 38) (tgt := 4) dL_types_38 (by decide) ?_
        rw [show (k : Int) + 1 = ((k + 1 : Nat) : Int) by omega] at I_19 ⊢
        refine (ih (k + 1) (by omega) I_19 (F_19.own hp hS) (fun j hj => ?_)).mono (fun v h2 q => ?_)
        · by_cases c : j = k
          · subst c; rw [show ((j : Int)).toNat = j by omega, updI_s]
          · rw [updI_n (by omega)]; exact hf j (by omega)
        · obtain ⟨q1, ft2, q2, q3, q4⟩ := q
          exact ⟨q1, ft2, q2, q3, F_19.trK q4⟩
set_option maxHeartbeats 4000000 in
theorem jl_types (hG : G.2.map Prod.snd = mTy) (hn0 : n0 ≤ 600) {p w : Nat} {t : List Int} (hp : x + 196 ≤ p ∧ x + 196 ≤ w) (ht : ∀ c ∈ t, 1 ≤ c ∧ c ≤ 127) (hl : t.length ≤ 100) (hI : RO x y n0 f4 m kpm pool 0 ft h) (hS : isOwn h p w t) : RUNM G l 1001 mL_types [.ref x, .ref p] h (fun v h' => v = some (.int (J 1)) ∧ ∃ ft', RO x y n0 f4 m kpm pool (t.length : Int) ft' h' ∧ (∀ j, j < t.length → ft' j = t.getD j 0) ∧ Same (kBlk x) h h') := by
  refine RUNM.of (by decide +kernel) (Nat.le_of_ble_eq_true rfl) ?_
  refine rj_iconst (pc := 0) dL_types_0 ?_
  refine r_istore_n (pc := 1) dL_types_1 (Nat.le_of_ble_eq_true rfl) ?_
  dsimp only [lsSt, List.set, mLs, mEnt]
  refine rj_iconst (pc := 2) dL_types_2 ?_
  refine r_istore_n (pc := 3) dL_types_3 (Nat.le_of_ble_eq_true rfl) ?_
  dsimp only [lsSt, List.set, mLs, mEnt]
  exact L_typ hG hn0 hp ht hl t.length 0 (Nat.zero_add _) hI hS (fun j hj => absurd hj (Nat.not_lt_zero _))
end N4

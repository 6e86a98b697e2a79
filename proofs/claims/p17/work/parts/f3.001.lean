set_option maxHeartbeats 4000000 in
set_option maxRecDepth 100000 in
theorem kg_trial {G : mG} {l : Launch} (d : Nat) {h : mH} {x : Nat} {kp tk : Option Nat} {zr : Nat → Int} {fr : Nat → Nat → Int} {p e o zt : Int} {ft : Nat → Int} {zs : Int} {fs : Nat → Int} {b za : Int} {fa : Nat → Int} {c : Nat → Int} {C : Nat → Nat → Int} {nm : Nat → Int64} {g : Nat → Option Nat} (hK : isK h x kp tk zr fr p e o zt ft zs fs b za fa c C nm g) (hc : ∀ q, InR (c q)) (hC : ∀ k q, InR (C k q)) {a : Int} (ha : InR a) {i : Int} (hi : InR i) {u : Int} (hu : InR u) {h1 h2 : mH} {r2 : Nat} {b2 z2 : Int} {f2 : Nat → Int} {c2 : Nat → Int} {C2 : Nat → Nat → Int} {nm2 : Nat → Int64} {g2 : Nat → Option Nat} {b3 z3 : Int} {f3 : Nat → Int} {c3 : Nat → Int} {C3 : Nat → Nat → Int} {nm3 : Nat → Int64} {g3 : Nat → Option Nat} {n1 : Int} (hn1 : InR n1) (T : ((inW c 2 10 a ∧ (0 ≤ u ∧ u ≤ 5)) ∧ (0 ≤ i ∧ i ≤ 100)) → RUNM G l (d + 14) mX10_thinkerOfNow [.ref x] h (fun v h' => v = some (.ref r2) ∧ h' = h1)) (hR2 : ((inW c 2 10 a ∧ (0 ≤ u ∧ u ≤ 5)) ∧ (0 ≤ i ∧ i ≤ 100)) → isR h1 r2 b2 z2 f2 c2 C2 nm2 g2) (E : ((inW c 2 10 a ∧ (0 ≤ u ∧ u ≤ 5)) ∧ (0 ≤ i ∧ i ≤ 100)) → RUNM G l (d + 14) mX3_tickUpTo [.ref r2, .int (J (i))] h1 (fun v h' => v = some (.int (J n1)) ∧ h' = h2)) (hR3 : ((inW c 2 10 a ∧ (0 ≤ u ∧ u ≤ 5)) ∧ (0 ≤ i ∧ i ≤ 100)) → isR h2 r2 b3 z3 f3 c3 C3 nm3 g3) (hK3 : ((inW c 2 10 a ∧ (0 ≤ u ∧ u ≤ 5)) ∧ (0 ≤ i ∧ i ≤ 100)) → isK h2 x kp (some r2) zr fr p e o zt ft zs fs b za fa c C nm g) (hc3 : ∀ q, InR (c3 q)) (hC3 : ∀ k q, InR (C3 k q)) (hO3 : ((inW c 2 10 a ∧ (0 ≤ u ∧ u ≤ 5)) ∧ (0 ≤ i ∧ i ≤ 100)) → oOk c3) {N : Nat} (hN : ((inW c 2 10 a ∧ (0 ≤ u ∧ u ≤ 5)) ∧ (0 ≤ i ∧ i ≤ 100)) → c3 0 = (N : Int) ∧ N ≤ 90) {F : Nat} (hF : ((inW c 2 10 a ∧ (0 ≤ u ∧ u ≤ 5)) ∧ (0 ≤ i ∧ i ≤ 100)) → (c3 11 = (F : Int) ∧ c3 12 = (F : Int) ∧ c3 13 = (F : Int)) ∧ F ≤ 90 ∧ (0 ≤ c3 4 ∧ c3 4 ≤ (F : Int))) : RUNM G l (d + 15) mX10_trial [.ref x, .int (J a), .int (J i), .int (J u)] h (fun v h' => (¬ (inW c 2 10 a ∧ (0 ≤ u ∧ u ≤ 5)) ∧ v = some (.int (J (-1))) ∧ h' = h) ∨ ((inW c 2 10 a ∧ (0 ≤ u ∧ u ≤ 5)) ∧ ¬ (0 ≤ i ∧ i ≤ 100) ∧ v = some (.int (J (-2))) ∧ h' = h) ∨ (((inW c 2 10 a ∧ (0 ≤ u ∧ u ≤ 5)) ∧ (0 ≤ i ∧ i ≤ 100)) ∧ v = some (.int (J (if u = 0 then fcF c3 (C3 5) F a else if u = 1 then fnF c3 (C3 5) (C3 3) F a 0 else if u = 2 then fgF c3 (C3 5) (C3 4) F a 0 else if u = 3 then (if inW c3 2 10 a then c3 (489 + 9 * a.toNat) else -1) else if u = 4 then (if inW c3 2 10 a then c3 (491 + 9 * a.toNat) else -1) else c3 9))) ∧ h' = h2)) := by
  refine RUNM.of (by decide +kernel) (Nat.le_of_ble_eq_true rfl) ?_
  have hD := hK.d
  have hS := hK.s
  have hR := hK.r
  have hW := hK.w
  refine r_aload_n (pc := 0) dX10_trial_0 rfl (by first | rfl | exact isRefV_rf _) ?_
  refine r_getf (pc := 1) dX10_trial_1 fX10_51 (by first | assumption | exact isI.gx (by assumption) | exact isI.gc (by assumption) | exact isW.gx (by assumption) | exact isW.gF (by assumption) | exact isW.gT (by assumption) (by omega) | exact isW.gS (by assumption) (by omega) | exact isW.gK (by assumption) (by omega) | exact isW.g1 (by assumption) | exact isW.g2 (by assumption) | exact isW.g3 (by assumption) | exact isI.gx (isW.i0 (by assumption)) | exact isI.gc (isW.i0 (by assumption)) | exact isI.gx (isW.i1 (by assumption)) | exact isI.gc (isW.i1 (by assumption)) | exact isI.gx (isW.i2 (by assumption)) | exact isI.gc (isW.i2 (by assumption)) | exact isI.gx (isW.i3 (by assumption)) | exact isI.gc (isW.i3 (by assumption)) | exact isI.gx (isW.i4 (by assumption)) | exact isI.gc (isW.i4 (by assumption)) | exact isI.gx (isW.i5 (by assumption)) | exact isI.gc (isW.i5 (by assumption)) | exact isR.gx (by assumption) | exact isRd.gx (by assumption) | exact isSp.gx (by assumption) | exact isI.gx (isR.i (by assumption)) | exact isI.gx (isRd.i (by assumption)) | exact isI.gc (isRd.i (by assumption)) | exact isI.gx (isSp.i (by assumption)) | exact isW.gx (isR.w (by assumption)) | exact isW.gF (isR.w (by assumption)) | exact isK.gx (by assumption) | exact isK.gr (by assumption) | exact isI.gx (isK.row (by assumption) (by omega)) | exact isI.gc (isK.row (by assumption) (by omega)) | fail "no such object") (by rfl) ?_
  refine r_iload_n (pc := 4) dX10_trial_4 rfl ?_
  refine r_callV1 (pc := 5) dX10_trial_5 qX9_taskAt kX10_79 vX9_taskAt (by first | assumption | exact isI.gx (by assumption) | exact isI.gc (by assumption) | exact isW.gx (by assumption) | exact isW.gF (by assumption) | exact isW.gT (by assumption) (by omega) | exact isW.gS (by assumption) (by omega) | exact isW.gK (by assumption) (by omega) | exact isW.g1 (by assumption) | exact isW.g2 (by assumption) | exact isW.g3 (by assumption) | exact isI.gx (isW.i0 (by assumption)) | exact isI.gc (isW.i0 (by assumption)) | exact isI.gx (isW.i1 (by assumption)) | exact isI.gc (isW.i1 (by assumption)) | exact isI.gx (isW.i2 (by assumption)) | exact isI.gc (isW.i2 (by assumption)) | exact isI.gx (isW.i3 (by assumption)) | exact isI.gc (isW.i3 (by assumption)) | exact isI.gx (isW.i4 (by assumption)) | exact isI.gc (isW.i4 (by assumption)) | exact isI.gx (isW.i5 (by assumption)) | exact isI.gc (isW.i5 (by assumption)) | exact isR.gx (by assumption) | exact isRd.gx (by assumption) | exact isSp.gx (by assumption) | exact isI.gx (isR.i (by assumption)) | exact isI.gx (isRd.i (by assumption)) | exact isI.gc (isRd.i (by assumption)) | exact isI.gx (isSp.i (by assumption)) | exact isW.gx (isR.w (by assumption)) | exact isW.gF (isR.w (by assumption)) | exact isK.gx (by assumption) | exact isK.gr (by assumption) | exact isI.gx (isK.row (by assumption) (by omega)) | exact isI.gc (isK.row (by assumption) (by omega)) | fail "no such object") rfl rfl (Nat.le_of_ble_eq_true rfl) (cw_taskAt _ hW hc ha) (fun v_5 h_5 q_5 => ?_)
  obtain ⟨q1_5, rfl⟩ := q_5
  by_cases e_5 : inW c 2 10 a
  · obtain rfl := tkAt_P e_5 q1_5
    refine r_ifnull (pc := 8) (tgt := 20) dX10_trial_8 (by decide) (by first | rfl | exact isRefV_rf _) (fun c_8 => by cases c_8) (fun a_8 c_8 => ?_)
    refine r_iload_n (pc := 11) dX10_trial_11 rfl ?_
    refine rj_if_lt (pc := 12) (tgt := 20) dX10_trial_12 (by decide) (by first | exact b01_r | exact bz_r | omega | (constructor <;> omega) | apply_assumption | (apply atF_r; assumption) | fail "no range") (fun c_12 => ?_) (fun c_12 => ?_)
    · refine rj_iconst (pc := 20) dX10_trial_20 ?_
      refine r_ireturn (pc := 21) .int dX10_trial_21 rfl (by first | rfl | assumption) ?_
      first
      | exact Or.inl ⟨fun z => absurd z.1 (by assumption), rfl, rfl⟩
      | exact Or.inl ⟨by omega, rfl, rfl⟩
      | exact Or.inr (Or.inl ⟨⟨by assumption, by omega⟩, by omega, rfl, rfl⟩)
      | (refine Or.inr (Or.inr ⟨CC, ?_, rfl⟩); ((repeat' split) <;> first | rfl | (exfalso; omega) | (exfalso; apply absurd ‹inW c3 2 10 a›; assumption)); done)
      | fail "leaf"
    · refine r_iload_n (pc := 15) dX10_trial_15 rfl ?_
      refine rj_iconst (pc := 16) dX10_trial_16 ?_
      refine rj_icmp_le (pc := 17) (tgt := 22) dX10_trial_17 (by decide) (by first | exact b01_r | exact bz_r | omega | (constructor <;> omega) | apply_assumption | (apply atF_r; assumption) | fail "no range") (by first | exact b01_r | exact bz_r | omega | (constructor <;> omega) | apply_assumption | (apply atF_r; assumption) | fail "no range") (fun c_17 => ?_) (fun c_17 => ?_)
      · refine r_iload_n (pc := 22) dX10_trial_22 rfl ?_
        refine rj_if_lt (pc := 23) (tgt := 32) dX10_trial_23 (by decide) (by first | exact b01_r | exact bz_r | omega | (constructor <;> omega) | apply_assumption | (apply atF_r; assumption) | fail "no range") (fun c_23 => ?_) (fun c_23 => ?_)
        · refine rj_bipush (pc := 32) dX10_trial_32 (by decide +kernel) ?_
          refine r_ireturn (pc := 34) .int dX10_trial_34 rfl (by first | rfl | assumption) ?_
          first
          | exact Or.inl ⟨fun z => absurd z.1 (by assumption), rfl, rfl⟩
          | exact Or.inl ⟨by omega, rfl, rfl⟩
          | exact Or.inr (Or.inl ⟨⟨by assumption, by omega⟩, by omega, rfl, rfl⟩)
          | (refine Or.inr (Or.inr ⟨CC, ?_, rfl⟩); ((repeat' split) <;> first | rfl | (exfalso; omega) | (exfalso; apply absurd ‹inW c3 2 10 a›; assumption)); done)
          | fail "leaf"
        · refine r_iload_n (pc := 26) dX10_trial_26 rfl ?_
          refine rj_bipush (pc := 27) dX10_trial_27 (by decide +kernel) ?_
          refine rj_icmp_le (pc := 29) (tgt := 35) dX10_trial_29 (by decide) (by first | exact b01_r | exact bz_r | omega | (constructor <;> omega) | apply_assumption | (apply atF_r; assumption) | fail "no range") (by first | exact b01_r | exact bz_r | omega | (constructor <;> omega) | apply_assumption | (apply atF_r; assumption) | fail "no range") (fun c_29 => ?_) (fun c_29 => ?_)
          · have CC : ((inW c 2 10 a ∧ (0 ≤ u ∧ u ≤ 5)) ∧ (0 ≤ i ∧ i ≤ 100)) := ⟨⟨e_5, by omega⟩, by omega⟩
            refine r_aload_n (pc := 35) dX10_trial_35 rfl (by first | rfl | exact isRefV_rf _) ?_
            refine r_callV0 (pc := 36) dX10_trial_36 qX10_thinkerOfNow kX10_208 vX10_thinkerOfNow (by first | assumption | exact isI.gx (by assumption) | exact isI.gc (by assumption) | exact isW.gx (by assumption) | exact isW.gF (by assumption) | exact isW.gT (by assumption) (by omega) | exact isW.gS (by assumption) (by omega) | exact isW.gK (by assumption) (by omega) | exact isW.g1 (by assumption) | exact isW.g2 (by assumption) | exact isW.g3 (by assumption) | exact isI.gx (isW.i0 (by assumption)) | exact isI.gc (isW.i0 (by assumption)) | exact isI.gx (isW.i1 (by assumption)) | exact isI.gc (isW.i1 (by assumption)) | exact isI.gx (isW.i2 (by assumption)) | exact isI.gc (isW.i2 (by assumption)) | exact isI.gx (isW.i3 (by assumption)) | exact isI.gc (isW.i3 (by assumption)) | exact isI.gx (isW.i4 (by assumption)) | exact isI.gc (isW.i4 (by assumption)) | exact isI.gx (isW.i5 (by assumption)) | exact isI.gc (isW.i5 (by assumption)) | exact isR.gx (by assumption) | exact isRd.gx (by assumption) | exact isSp.gx (by assumption) | exact isI.gx (isR.i (by assumption)) | exact isI.gx (isRd.i (by assumption)) | exact isI.gc (isRd.i (by assumption)) | exact isI.gx (isSp.i (by assumption)) | exact isW.gx (isR.w (by assumption)) | exact isW.gF (isR.w (by assumption)) | exact isK.gx (by assumption) | exact isK.gr (by assumption) | exact isI.gx (isK.row (by assumption) (by omega)) | exact isI.gc (isK.row (by assumption) (by omega)) | fail "no such object") rfl rfl (Nat.le_of_ble_eq_true rfl) (T CC) (fun v_36 h_36 q_36 => ?_)
            obtain ⟨rfl, e_360⟩ := q_36
            subst e_360
            have R_36 := hR2 CC
            have gr_36 := R_36.gx
            refine r_astore (pc := 39) dX10_trial_39 (Nat.le_of_ble_eq_true rfl) (by first | rfl | exact isRefV_rf _) ?_
            dsimp only [lsSt, List.set, mLs, mEnt]
            refine r_aload (pc := 41) dX10_trial_41 rfl (by first | rfl | exact isRefV_rf _) ?_
            refine r_getf (pc := 43) dX10_trial_43 fX10_47 (by first | assumption | exact isI.gx (by assumption) | exact isI.gc (by assumption) | exact isW.gx (by assumption) | exact isW.gF (by assumption) | exact isW.gT (by assumption) (by omega) | exact isW.gS (by assumption) (by omega) | exact isW.gK (by assumption) (by omega) | exact isW.g1 (by assumption) | exact isW.g2 (by assumption) | exact isW.g3 (by assumption) | exact isI.gx (isW.i0 (by assumption)) | exact isI.gc (isW.i0 (by assumption)) | exact isI.gx (isW.i1 (by assumption)) | exact isI.gc (isW.i1 (by assumption)) | exact isI.gx (isW.i2 (by assumption)) | exact isI.gc (isW.i2 (by assumption)) | exact isI.gx (isW.i3 (by assumption)) | exact isI.gc (isW.i3 (by assumption)) | exact isI.gx (isW.i4 (by assumption)) | exact isI.gc (isW.i4 (by assumption)) | exact isI.gx (isW.i5 (by assumption)) | exact isI.gc (isW.i5 (by assumption)) | exact isR.gx (by assumption) | exact isRd.gx (by assumption) | exact isSp.gx (by assumption) | exact isI.gx (isR.i (by assumption)) | exact isI.gx (isRd.i (by assumption)) | exact isI.gc (isRd.i (by assumption)) | exact isI.gx (isSp.i (by assumption)) | exact isW.gx (isR.w (by assumption)) | exact isW.gF (isR.w (by assumption)) | exact isK.gx (by assumption) | exact isK.gr (by assumption) | exact isI.gx (isK.row (by assumption) (by omega)) | exact isI.gc (isK.row (by assumption) (by omega)) | fail "no such object") (by rfl) ?_
            refine r_astore (pc := 46) dX10_trial_46 (Nat.le_of_ble_eq_true rfl) (by first | rfl | exact isRefV_rf _) ?_
            dsimp only [lsSt, List.set, mLs, mEnt]
            refine r_aload (pc := 48) dX10_trial_48 rfl (by first | rfl | exact isRefV_rf _) ?_
            refine r_iload_n (pc := 50) dX10_trial_50 rfl ?_
            refine r_callV1 (pc := 51) dX10_trial_51 qX3_tickUpTo kX10_224 vX3_tickUpTo (by first | assumption | exact isI.gx (by assumption) | exact isI.gc (by assumption) | exact isW.gx (by assumption) | exact isW.gF (by assumption) | exact isW.gT (by assumption) (by omega) | exact isW.gS (by assumption) (by omega) | exact isW.gK (by assumption) (by omega) | exact isW.g1 (by assumption) | exact isW.g2 (by assumption) | exact isW.g3 (by assumption) | exact isI.gx (isW.i0 (by assumption)) | exact isI.gc (isW.i0 (by assumption)) | exact isI.gx (isW.i1 (by assumption)) | exact isI.gc (isW.i1 (by assumption)) | exact isI.gx (isW.i2 (by assumption)) | exact isI.gc (isW.i2 (by assumption)) | exact isI.gx (isW.i3 (by assumption)) | exact isI.gc (isW.i3 (by assumption)) | exact isI.gx (isW.i4 (by assumption)) | exact isI.gc (isW.i4 (by assumption)) | exact isI.gx (isW.i5 (by assumption)) | exact isI.gc (isW.i5 (by assumption)) | exact isR.gx (by assumption) | exact isRd.gx (by assumption) | exact isSp.gx (by assumption) | exact isI.gx (isR.i (by assumption)) | exact isI.gx (isRd.i (by assumption)) | exact isI.gc (isRd.i (by assumption)) | exact isI.gx (isSp.i (by assumption)) | exact isW.gx (isR.w (by assumption)) | exact isW.gF (isR.w (by assumption)) | exact isK.gx (by assumption) | exact isK.gr (by assumption) | exact isI.gx (isK.row (by assumption) (by omega)) | exact isI.gc (isK.row (by assumption) (by omega)) | fail "no such object") rfl rfl (Nat.le_of_ble_eq_true rfl) (E CC) (fun v_51 h_51 q_51 => ?_)
            obtain ⟨rfl, e_510⟩ := q_51
            subst e_510
            have R_51 := hR3 CC
            have U_51 := R_51.w
            have gu_51 := U_51.gx
            have K_51 := hK3 CC
            have gx_51 := K_51.gx
            have V_51 := K_51.w
            have gv_51 := V_51.gx
            have hN3 := (hN CC).1
            have hcap := (hN CC).2
            have hF1 := (hF CC).1.1
            have hF2 := (hF CC).1.2.1
            have hF3 := (hF CC).1.2.2
            have hF4 := (hF CC).2.1
            have hF5 := (hF CC).2.2
            refine r_pop (pc := 54) dX10_trial_54 (by first | rfl | (cases ‹Option Nat› <;> rfl)) ?_
            refine r_aload (pc := 55) dX10_trial_55 rfl (by first | rfl | exact isRefV_rf _) ?_
            refine r_iload_n (pc := 57) dX10_trial_57 rfl ?_
            refine r_callV1 (pc := 58) dX10_trial_58 qX9_taskAt kX10_79 vX9_taskAt (by first | assumption | exact isI.gx (by assumption) | exact isI.gc (by assumption) | exact isW.gx (by assumption) | exact isW.gF (by assumption) | exact isW.gT (by assumption) (by omega) | exact isW.gS (by assumption) (by omega) | exact isW.gK (by assumption) (by omega) | exact isW.g1 (by assumption) | exact isW.g2 (by assumption) | exact isW.g3 (by assumption) | exact isI.gx (isW.i0 (by assumption)) | exact isI.gc (isW.i0 (by assumption)) | exact isI.gx (isW.i1 (by assumption)) | exact isI.gc (isW.i1 (by assumption)) | exact isI.gx (isW.i2 (by assumption)) | exact isI.gc (isW.i2 (by assumption)) | exact isI.gx (isW.i3 (by assumption)) | exact isI.gc (isW.i3 (by assumption)) | exact isI.gx (isW.i4 (by assumption)) | exact isI.gc (isW.i4 (by assumption)) | exact isI.gx (isW.i5 (by assumption)) | exact isI.gc (isW.i5 (by assumption)) | exact isR.gx (by assumption) | exact isRd.gx (by assumption) | exact isSp.gx (by assumption) | exact isI.gx (isR.i (by assumption)) | exact isI.gx (isRd.i (by assumption)) | exact isI.gc (isRd.i (by assumption)) | exact isI.gx (isSp.i (by assumption)) | exact isW.gx (isR.w (by assumption)) | exact isW.gF (isR.w (by assumption)) | exact isK.gx (by assumption) | exact isK.gr (by assumption) | exact isI.gx (isK.row (by assumption) (by omega)) | exact isI.gc (isK.row (by assumption) (by omega)) | fail "no such object") rfl rfl (Nat.le_of_ble_eq_true rfl) (cw_taskAt _ U_51 hc3 ha) (fun v_58 h_58 q_58 => ?_)
            obtain ⟨q1_58, rfl⟩ := q_58
            by_cases e_58 : inW c3 2 10 a
            · obtain rfl := tkAt_P e_58 q1_58
              refine r_astore (pc := 61) dX10_trial_61 (Nat.le_of_ble_eq_true rfl) (by first | rfl | exact isRefV_rf _) ?_
              dsimp only [lsSt, List.set, mLs, mEnt]
              refine r_iload_n (pc := 63) dX10_trial_63 rfl ?_
              refine rj_tsw (pc := 64) dX10_trial_64 (by first | exact b01_r | exact bz_r | omega | (constructor <;> omega) | apply_assumption | (apply atF_r; assumption) | fail "no range") (by decide) (by decide) (by decide) (fun off_64 tgt_64 ho_64 ht_64 => ?_)
              by_cases e_64_0 : u = 0
              · rw [e_64_0] at ho_64
                obtain rfl : off_64 = 36 := ho_64.symm.trans (by decide)
                obtain rfl : tgt_64 = 100 := by omega
                refine r_aload (pc := 100) dX10_trial_100 rfl (by first | rfl | exact isRefV_rf _) ?_
                refine r_iload_n (pc := 102) dX10_trial_102 rfl ?_
                refine r_callV1 (pc := 103) dX10_trial_103 qX9_faultCount kX10_227 vX9_faultCount (by first | assumption | exact isI.gx (by assumption) | exact isI.gc (by assumption) | exact isW.gx (by assumption) | exact isW.gF (by assumption) | exact isW.gT (by assumption) (by omega) | exact isW.gS (by assumption) (by omega) | exact isW.gK (by assumption) (by omega) | exact isW.g1 (by assumption) | exact isW.g2 (by assumption) | exact isW.g3 (by assumption) | exact isI.gx (isW.i0 (by assumption)) | exact isI.gc (isW.i0 (by assumption)) | exact isI.gx (isW.i1 (by assumption)) | exact isI.gc (isW.i1 (by assumption)) | exact isI.gx (isW.i2 (by assumption)) | exact isI.gc (isW.i2 (by assumption)) | exact isI.gx (isW.i3 (by assumption)) | exact isI.gc (isW.i3 (by assumption)) | exact isI.gx (isW.i4 (by assumption)) | exact isI.gc (isW.i4 (by assumption)) | exact isI.gx (isW.i5 (by assumption)) | exact isI.gc (isW.i5 (by assumption)) | exact isR.gx (by assumption) | exact isRd.gx (by assumption) | exact isSp.gx (by assumption) | exact isI.gx (isR.i (by assumption)) | exact isI.gx (isRd.i (by assumption)) | exact isI.gc (isRd.i (by assumption)) | exact isI.gx (isSp.i (by assumption)) | exact isW.gx (isR.w (by assumption)) | exact isW.gF (isR.w (by assumption)) | exact isK.gx (by assumption) | exact isK.gr (by assumption) | exact isI.gx (isK.row (by assumption) (by omega)) | exact isI.gc (isK.row (by assumption) (by omega)) | fail "no such object") rfl rfl (Nat.le_of_ble_eq_true rfl) (cq_faultCount _ U_51 hc3 hF1 hF2 hF3 hF4 hF5 (hC3 5) ha) (fun v_103 h_103 q_103 => ?_)
                obtain ⟨rfl, rfl⟩ := q_103
                refine r_ireturn (pc := 106) .int dX10_trial_106 rfl (by first | rfl | assumption) ?_
                first
                | exact Or.inl ⟨fun z => absurd z.1 (by assumption), rfl, rfl⟩
                | exact Or.inl ⟨by omega, rfl, rfl⟩
                | exact Or.inr (Or.inl ⟨⟨by assumption, by omega⟩, by omega, rfl, rfl⟩)
                | (refine Or.inr (Or.inr ⟨CC, ?_, rfl⟩); ((repeat' split) <;> first | rfl | (exfalso; omega) | (exfalso; apply absurd ‹inW c3 2 10 a›; assumption)); done)
                | fail "leaf"
              by_cases e_64_1 : u = 1
              · rw [e_64_1] at ho_64
                obtain rfl : off_64 = 43 := ho_64.symm.trans (by decide)
                obtain rfl : tgt_64 = 107 := by omega
                refine r_aload (pc := 107) dX10_trial_107 rfl (by first | rfl | exact isRefV_rf _) ?_
                refine r_iload_n (pc := 109) dX10_trial_109 rfl ?_
                refine rj_iconst (pc := 110) dX10_trial_110 ?_
                refine r_callV2 (pc := 111) dX10_trial_111 qX9_faultNumber kX10_212 vX9_faultNumber (by first | assumption | exact isI.gx (by assumption) | exact isI.gc (by assumption) | exact isW.gx (by assumption) | exact isW.gF (by assumption) | exact isW.gT (by assumption) (by omega) | exact isW.gS (by assumption) (by omega) | exact isW.gK (by assumption) (by omega) | exact isW.g1 (by assumption) | exact isW.g2 (by assumption) | exact isW.g3 (by assumption) | exact isI.gx (isW.i0 (by assumption)) | exact isI.gc (isW.i0 (by assumption)) | exact isI.gx (isW.i1 (by assumption)) | exact isI.gc (isW.i1 (by assumption)) | exact isI.gx (isW.i2 (by assumption)) | exact isI.gc (isW.i2 (by assumption)) | exact isI.gx (isW.i3 (by assumption)) | exact isI.gc (isW.i3 (by assumption)) | exact isI.gx (isW.i4 (by assumption)) | exact isI.gc (isW.i4 (by assumption)) | exact isI.gx (isW.i5 (by assumption)) | exact isI.gc (isW.i5 (by assumption)) | exact isR.gx (by assumption) | exact isRd.gx (by assumption) | exact isSp.gx (by assumption) | exact isI.gx (isR.i (by assumption)) | exact isI.gx (isRd.i (by assumption)) | exact isI.gc (isRd.i (by assumption)) | exact isI.gx (isSp.i (by assumption)) | exact isW.gx (isR.w (by assumption)) | exact isW.gF (isR.w (by assumption)) | exact isK.gx (by assumption) | exact isK.gr (by assumption) | exact isI.gx (isK.row (by assumption) (by omega)) | exact isI.gc (isK.row (by assumption) (by omega)) | fail "no such object") rfl rfl (Nat.le_of_ble_eq_true rfl) (cq_faultNumber _ U_51 hc3 hF1 hF2 hF3 hF4 hF5 (hC3 5) ha (k := 0) (by decide) (by decide)) (fun v_111 h_111 q_111 => ?_)
                obtain ⟨rfl, rfl⟩ := q_111
                refine r_ireturn (pc := 114) .int dX10_trial_114 rfl (by first | rfl | assumption) ?_
                first
                | exact Or.inl ⟨fun z => absurd z.1 (by assumption), rfl, rfl⟩
                | exact Or.inl ⟨by omega, rfl, rfl⟩
                | exact Or.inr (Or.inl ⟨⟨by assumption, by omega⟩, by omega, rfl, rfl⟩)
                | (refine Or.inr (Or.inr ⟨CC, ?_, rfl⟩); ((repeat' split) <;> first | rfl | (exfalso; omega) | (exfalso; apply absurd ‹inW c3 2 10 a›; assumption)); done)
                | fail "leaf"
              by_cases e_64_2 : u = 2
              · rw [e_64_2] at ho_64
                obtain rfl : off_64 = 51 := ho_64.symm.trans (by decide)
                obtain rfl : tgt_64 = 115 := by omega
                refine r_aload (pc := 115) dX10_trial_115 rfl (by first | rfl | exact isRefV_rf _) ?_
                refine r_iload_n (pc := 117) dX10_trial_117 rfl ?_
                refine rj_iconst (pc := 118) dX10_trial_118 ?_
                refine r_callV2 (pc := 119) dX10_trial_119 qX9_faultThing kX10_215 vX9_faultThing (by first | assumption | exact isI.gx (by assumption) | exact isI.gc (by assumption) | exact isW.gx (by assumption) | exact isW.gF (by assumption) | exact isW.gT (by assumption) (by omega) | exact isW.gS (by assumption) (by omega) | exact isW.gK (by assumption) (by omega) | exact isW.g1 (by assumption) | exact isW.g2 (by assumption) | exact isW.g3 (by assumption) | exact isI.gx (isW.i0 (by assumption)) | exact isI.gc (isW.i0 (by assumption)) | exact isI.gx (isW.i1 (by assumption)) | exact isI.gc (isW.i1 (by assumption)) | exact isI.gx (isW.i2 (by assumption)) | exact isI.gc (isW.i2 (by assumption)) | exact isI.gx (isW.i3 (by assumption)) | exact isI.gc (isW.i3 (by assumption)) | exact isI.gx (isW.i4 (by assumption)) | exact isI.gc (isW.i4 (by assumption)) | exact isI.gx (isW.i5 (by assumption)) | exact isI.gc (isW.i5 (by assumption)) | exact isR.gx (by assumption) | exact isRd.gx (by assumption) | exact isSp.gx (by assumption) | exact isI.gx (isR.i (by assumption)) | exact isI.gx (isRd.i (by assumption)) | exact isI.gc (isRd.i (by assumption)) | exact isI.gx (isSp.i (by assumption)) | exact isW.gx (isR.w (by assumption)) | exact isW.gF (isR.w (by assumption)) | exact isK.gx (by assumption) | exact isK.gr (by assumption) | exact isI.gx (isK.row (by assumption) (by omega)) | exact isI.gc (isK.row (by assumption) (by omega)) | fail "no such object") rfl rfl (Nat.le_of_ble_eq_true rfl) (cq_faultThing _ U_51 hc3 hF1 hF2 hF3 hF4 hF5 (hC3 5) ha (k := 0) (by decide) (by decide)) (fun v_119 h_119 q_119 => ?_)
                obtain ⟨rfl, rfl⟩ := q_119
                refine r_ireturn (pc := 122) .int dX10_trial_122 rfl (by first | rfl | assumption) ?_
                first
                | exact Or.inl ⟨fun z => absurd z.1 (by assumption), rfl, rfl⟩
                | exact Or.inl ⟨by omega, rfl, rfl⟩
                | exact Or.inr (Or.inl ⟨⟨by assumption, by omega⟩, by omega, rfl, rfl⟩)
                | (refine Or.inr (Or.inr ⟨CC, ?_, rfl⟩); ((repeat' split) <;> first | rfl | (exfalso; omega) | (exfalso; apply absurd ‹inW c3 2 10 a›; assumption)); done)
                | fail "leaf"
              by_cases e_64_3 : u = 3
              · rw [e_64_3] at ho_64
                obtain rfl : off_64 = 59 := ho_64.symm.trans (by decide)
                obtain rfl : tgt_64 = 123 := by omega
                refine r_aload (pc := 123) dX10_trial_123 rfl (by first | rfl | exact isRefV_rf _) ?_
                refine r_ifnonnull (pc := 125) (tgt := 132) dX10_trial_125 (by decide) (by first | rfl | exact isRefV_rf _) (fun a_125 c_125 => ?_) (fun c_125 => by cases c_125)
                refine r_aload (pc := 132) dX10_trial_132 rfl (by first | rfl | exact isRefV_rf _) ?_
                refine r_getf (pc := 134) dX10_trial_134 fX10_230 (by first | assumption | exact isI.gx (by assumption) | exact isI.gc (by assumption) | exact isW.gx (by assumption) | exact isW.gF (by assumption) | exact isW.gT (by assumption) (by omega) | exact isW.gS (by assumption) (by omega) | exact isW.gK (by assumption) (by omega) | exact isW.g1 (by assumption) | exact isW.g2 (by assumption) | exact isW.g3 (by assumption) | exact isI.gx (isW.i0 (by assumption)) | exact isI.gc (isW.i0 (by assumption)) | exact isI.gx (isW.i1 (by assumption)) | exact isI.gc (isW.i1 (by assumption)) | exact isI.gx (isW.i2 (by assumption)) | exact isI.gc (isW.i2 (by assumption)) | exact isI.gx (isW.i3 (by assumption)) | exact isI.gc (isW.i3 (by assumption)) | exact isI.gx (isW.i4 (by assumption)) | exact isI.gc (isW.i4 (by assumption)) | exact isI.gx (isW.i5 (by assumption)) | exact isI.gc (isW.i5 (by assumption)) | exact isR.gx (by assumption) | exact isRd.gx (by assumption) | exact isSp.gx (by assumption) | exact isI.gx (isR.i (by assumption)) | exact isI.gx (isRd.i (by assumption)) | exact isI.gc (isRd.i (by assumption)) | exact isI.gx (isSp.i (by assumption)) | exact isW.gx (isR.w (by assumption)) | exact isW.gF (isR.w (by assumption)) | exact isK.gx (by assumption) | exact isK.gr (by assumption) | exact isI.gx (isK.row (by assumption) (by omega)) | exact isI.gc (isK.row (by assumption) (by omega)) | fail "no such object") (by rfl) ?_
                refine r_ireturn (pc := 137) .int dX10_trial_137 rfl (by first | rfl | assumption) ?_
                first
                | exact Or.inl ⟨fun z => absurd z.1 (by assumption), rfl, rfl⟩
                | exact Or.inl ⟨by omega, rfl, rfl⟩
                | exact Or.inr (Or.inl ⟨⟨by assumption, by omega⟩, by omega, rfl, rfl⟩)
                | (refine Or.inr (Or.inr ⟨CC, ?_, rfl⟩); ((repeat' split) <;> first | rfl | (exfalso; omega) | (exfalso; apply absurd ‹inW c3 2 10 a›; assumption)); done)
                | fail "leaf"
              by_cases e_64_4 : u = 4
              · rw [e_64_4] at ho_64
                obtain rfl : off_64 = 74 := ho_64.symm.trans (by decide)
                obtain rfl : tgt_64 = 138 := by omega
                refine r_aload (pc := 138) dX10_trial_138 rfl (by first | rfl | exact isRefV_rf _) ?_
                refine r_ifnonnull (pc := 140) (tgt := 147) dX10_trial_140 (by decide) (by first | rfl | exact isRefV_rf _) (fun a_140 c_140 => ?_) (fun c_140 => by cases c_140)
                refine r_aload (pc := 147) dX10_trial_147 rfl (by first | rfl | exact isRefV_rf _) ?_
                refine r_getf (pc := 149) dX10_trial_149 fX10_231 (by first | assumption | exact isI.gx (by assumption) | exact isI.gc (by assumption) | exact isW.gx (by assumption) | exact isW.gF (by assumption) | exact isW.gT (by assumption) (by omega) | exact isW.gS (by assumption) (by omega) | exact isW.gK (by assumption) (by omega) | exact isW.g1 (by assumption) | exact isW.g2 (by assumption) | exact isW.g3 (by assumption) | exact isI.gx (isW.i0 (by assumption)) | exact isI.gc (isW.i0 (by assumption)) | exact isI.gx (isW.i1 (by assumption)) | exact isI.gc (isW.i1 (by assumption)) | exact isI.gx (isW.i2 (by assumption)) | exact isI.gc (isW.i2 (by assumption)) | exact isI.gx (isW.i3 (by assumption)) | exact isI.gc (isW.i3 (by assumption)) | exact isI.gx (isW.i4 (by assumption)) | exact isI.gc (isW.i4 (by assumption)) | exact isI.gx (isW.i5 (by assumption)) | exact isI.gc (isW.i5 (by assumption)) | exact isR.gx (by assumption) | exact isRd.gx (by assumption) | exact isSp.gx (by assumption) | exact isI.gx (isR.i (by assumption)) | exact isI.gx (isRd.i (by assumption)) | exact isI.gc (isRd.i (by assumption)) | exact isI.gx (isSp.i (by assumption)) | exact isW.gx (isR.w (by assumption)) | exact isW.gF (isR.w (by assumption)) | exact isK.gx (by assumption) | exact isK.gr (by assumption) | exact isI.gx (isK.row (by assumption) (by omega)) | exact isI.gc (isK.row (by assumption) (by omega)) | fail "no such object") (by rfl) ?_
                refine r_ireturn (pc := 152) .int dX10_trial_152 rfl (by first | rfl | assumption) ?_
                first
                | exact Or.inl ⟨fun z => absurd z.1 (by assumption), rfl, rfl⟩
                | exact Or.inl ⟨by omega, rfl, rfl⟩
                | exact Or.inr (Or.inl ⟨⟨by assumption, by omega⟩, by omega, rfl, rfl⟩)
                | (refine Or.inr (Or.inr ⟨CC, ?_, rfl⟩); ((repeat' split) <;> first | rfl | (exfalso; omega) | (exfalso; apply absurd ‹inW c3 2 10 a›; assumption)); done)
                | fail "leaf"
              have eo_64 : off_64 = 89 := by
                rw [← ho_64]
                unfold tswOff
                rw [if_pos (by omega)]
              obtain rfl : tgt_64 = 153 := by omega
              refine r_aload (pc := 153) dX10_trial_153 rfl (by first | rfl | exact isRefV_rf _) ?_
              refine r_getf (pc := 155) dX10_trial_155 fX10_218 (by first | assumption | exact isI.gx (by assumption) | exact isI.gc (by assumption) | exact isW.gx (by assumption) | exact isW.gF (by assumption) | exact isW.gT (by assumption) (by omega) | exact isW.gS (by assumption) (by omega) | exact isW.gK (by assumption) (by omega) | exact isW.g1 (by assumption) | exact isW.g2 (by assumption) | exact isW.g3 (by assumption) | exact isI.gx (isW.i0 (by assumption)) | exact isI.gc (isW.i0 (by assumption)) | exact isI.gx (isW.i1 (by assumption)) | exact isI.gc (isW.i1 (by assumption)) | exact isI.gx (isW.i2 (by assumption)) | exact isI.gc (isW.i2 (by assumption)) | exact isI.gx (isW.i3 (by assumption)) | exact isI.gc (isW.i3 (by assumption)) | exact isI.gx (isW.i4 (by assumption)) | exact isI.gc (isW.i4 (by assumption)) | exact isI.gx (isW.i5 (by assumption)) | exact isI.gc (isW.i5 (by assumption)) | exact isR.gx (by assumption) | exact isRd.gx (by assumption) | exact isSp.gx (by assumption) | exact isI.gx (isR.i (by assumption)) | exact isI.gx (isRd.i (by assumption)) | exact isI.gc (isRd.i (by assumption)) | exact isI.gx (isSp.i (by assumption)) | exact isW.gx (isR.w (by assumption)) | exact isW.gF (isR.w (by assumption)) | exact isK.gx (by assumption) | exact isK.gr (by assumption) | exact isI.gx (isK.row (by assumption) (by omega)) | exact isI.gc (isK.row (by assumption) (by omega)) | fail "no such object") (by rfl) ?_
              refine r_getf (pc := 158) dX10_trial_158 fX10_55 (by first | assumption | exact isI.gx (by assumption) | exact isI.gc (by assumption) | exact isW.gx (by assumption) | exact isW.gF (by assumption) | exact isW.gT (by assumption) (by omega) | exact isW.gS (by assumption) (by omega) | exact isW.gK (by assumption) (by omega) | exact isW.g1 (by assumption) | exact isW.g2 (by assumption) | exact isW.g3 (by assumption) | exact isI.gx (isW.i0 (by assumption)) | exact isI.gc (isW.i0 (by assumption)) | exact isI.gx (isW.i1 (by assumption)) | exact isI.gc (isW.i1 (by assumption)) | exact isI.gx (isW.i2 (by assumption)) | exact isI.gc (isW.i2 (by assumption)) | exact isI.gx (isW.i3 (by assumption)) | exact isI.gc (isW.i3 (by assumption)) | exact isI.gx (isW.i4 (by assumption)) | exact isI.gc (isW.i4 (by assumption)) | exact isI.gx (isW.i5 (by assumption)) | exact isI.gc (isW.i5 (by assumption)) | exact isR.gx (by assumption) | exact isRd.gx (by assumption) | exact isSp.gx (by assumption) | exact isI.gx (isR.i (by assumption)) | exact isI.gx (isRd.i (by assumption)) | exact isI.gc (isRd.i (by assumption)) | exact isI.gx (isSp.i (by assumption)) | exact isW.gx (isR.w (by assumption)) | exact isW.gF (isR.w (by assumption)) | exact isK.gx (by assumption) | exact isK.gr (by assumption) | exact isI.gx (isK.row (by assumption) (by omega)) | exact isI.gc (isK.row (by assumption) (by omega)) | fail "no such object") (by rfl) ?_
              refine r_ireturn (pc := 161) .int dX10_trial_161 rfl (by first | rfl | assumption) ?_
              first
              | exact Or.inl ⟨fun z => absurd z.1 (by assumption), rfl, rfl⟩
              | exact Or.inl ⟨by omega, rfl, rfl⟩
              | exact Or.inr (Or.inl ⟨⟨by assumption, by omega⟩, by omega, rfl, rfl⟩)
              | (refine Or.inr (Or.inr ⟨CC, ?_, rfl⟩); ((repeat' split) <;> first | rfl | (exfalso; omega) | (exfalso; apply absurd ‹inW c3 2 10 a›; assumption)); done)
              | fail "leaf"
            · obtain rfl := tkAt_N e_58 q1_58
              refine r_astore (pc := 61) dX10_trial_61 (Nat.le_of_ble_eq_true rfl) (by first | rfl | exact isRefV_rf _) ?_
              dsimp only [lsSt, List.set, mLs, mEnt]
              refine r_iload_n (pc := 63) dX10_trial_63 rfl ?_
              refine rj_tsw (pc := 64) dX10_trial_64 (by first | exact b01_r | exact bz_r | omega | (constructor <;> omega) | apply_assumption | (apply atF_r; assumption) | fail "no range") (by decide) (by decide) (by decide) (fun off_64 tgt_64 ho_64 ht_64 => ?_)
              by_cases e_64_0 : u = 0
              · rw [e_64_0] at ho_64
                obtain rfl : off_64 = 36 := ho_64.symm.trans (by decide)
                obtain rfl : tgt_64 = 100 := by omega
                refine r_aload (pc := 100) dX10_trial_100 rfl (by first | rfl | exact isRefV_rf _) ?_
                refine r_iload_n (pc := 102) dX10_trial_102 rfl ?_
                refine r_callV1 (pc := 103) dX10_trial_103 qX9_faultCount kX10_227 vX9_faultCount (by first | assumption | exact isI.gx (by assumption) | exact isI.gc (by assumption) | exact isW.gx (by assumption) | exact isW.gF (by assumption) | exact isW.gT (by assumption) (by omega) | exact isW.gS (by assumption) (by omega) | exact isW.gK (by assumption) (by omega) | exact isW.g1 (by assumption) | exact isW.g2 (by assumption) | exact isW.g3 (by assumption) | exact isI.gx (isW.i0 (by assumption)) | exact isI.gc (isW.i0 (by assumption)) | exact isI.gx (isW.i1 (by assumption)) | exact isI.gc (isW.i1 (by assumption)) | exact isI.gx (isW.i2 (by assumption)) | exact isI.gc (isW.i2 (by assumption)) | exact isI.gx (isW.i3 (by assumption)) | exact isI.gc (isW.i3 (by assumption)) | exact isI.gx (isW.i4 (by assumption)) | exact isI.gc (isW.i4 (by assumption)) | exact isI.gx (isW.i5 (by assumption)) | exact isI.gc (isW.i5 (by assumption)) | exact isR.gx (by assumption) | exact isRd.gx (by assumption) | exact isSp.gx (by assumption) | exact isI.gx (isR.i (by assumption)) | exact isI.gx (isRd.i (by assumption)) | exact isI.gc (isRd.i (by assumption)) | exact isI.gx (isSp.i (by assumption)) | exact isW.gx (isR.w (by assumption)) | exact isW.gF (isR.w (by assumption)) | exact isK.gx (by assumption) | exact isK.gr (by assumption) | exact isI.gx (isK.row (by assumption) (by omega)) | exact isI.gc (isK.row (by assumption) (by omega)) | fail "no such object") rfl rfl (Nat.le_of_ble_eq_true rfl) (cq_faultCount _ U_51 hc3 hF1 hF2 hF3 hF4 hF5 (hC3 5) ha) (fun v_103 h_103 q_103 => ?_)
                obtain ⟨rfl, rfl⟩ := q_103
                refine r_ireturn (pc := 106) .int dX10_trial_106 rfl (by first | rfl | assumption) ?_
                first
                | exact Or.inl ⟨fun z => absurd z.1 (by assumption), rfl, rfl⟩
                | exact Or.inl ⟨by omega, rfl, rfl⟩
                | exact Or.inr (Or.inl ⟨⟨by assumption, by omega⟩, by omega, rfl, rfl⟩)
                | (refine Or.inr (Or.inr ⟨CC, ?_, rfl⟩); ((repeat' split) <;> first | rfl | (exfalso; omega) | (exfalso; apply absurd ‹inW c3 2 10 a›; assumption)); done)
                | fail "leaf"
              by_cases e_64_1 : u = 1
              · rw [e_64_1] at ho_64
                obtain rfl : off_64 = 43 := ho_64.symm.trans (by decide)
                obtain rfl : tgt_64 = 107 := by omega
                refine r_aload (pc := 107) dX10_trial_107 rfl (by first | rfl | exact isRefV_rf _) ?_
                refine r_iload_n (pc := 109) dX10_trial_109 rfl ?_
                refine rj_iconst (pc := 110) dX10_trial_110 ?_
                refine r_callV2 (pc := 111) dX10_trial_111 qX9_faultNumber kX10_212 vX9_faultNumber (by first | assumption | exact isI.gx (by assumption) | exact isI.gc (by assumption) | exact isW.gx (by assumption) | exact isW.gF (by assumption) | exact isW.gT (by assumption) (by omega) | exact isW.gS (by assumption) (by omega) | exact isW.gK (by assumption) (by omega) | exact isW.g1 (by assumption) | exact isW.g2 (by assumption) | exact isW.g3 (by assumption) | exact isI.gx (isW.i0 (by assumption)) | exact isI.gc (isW.i0 (by assumption)) | exact isI.gx (isW.i1 (by assumption)) | exact isI.gc (isW.i1 (by assumption)) | exact isI.gx (isW.i2 (by assumption)) | exact isI.gc (isW.i2 (by assumption)) | exact isI.gx (isW.i3 (by assumption)) | exact isI.gc (isW.i3 (by assumption)) | exact isI.gx (isW.i4 (by assumption)) | exact isI.gc (isW.i4 (by assumption)) | exact isI.gx (isW.i5 (by assumption)) | exact isI.gc (isW.i5 (by assumption)) | exact isR.gx (by assumption) | exact isRd.gx (by assumption) | exact isSp.gx (by assumption) | exact isI.gx (isR.i (by assumption)) | exact isI.gx (isRd.i (by assumption)) | exact isI.gc (isRd.i (by assumption)) | exact isI.gx (isSp.i (by assumption)) | exact isW.gx (isR.w (by assumption)) | exact isW.gF (isR.w (by assumption)) | exact isK.gx (by assumption) | exact isK.gr (by assumption) | exact isI.gx (isK.row (by assumption) (by omega)) | exact isI.gc (isK.row (by assumption) (by omega)) | fail "no such object") rfl rfl (Nat.le_of_ble_eq_true rfl) (cq_faultNumber _ U_51 hc3 hF1 hF2 hF3 hF4 hF5 (hC3 5) ha (k := 0) (by decide) (by decide)) (fun v_111 h_111 q_111 => ?_)
                obtain ⟨rfl, rfl⟩ := q_111
                refine r_ireturn (pc := 114) .int dX10_trial_114 rfl (by first | rfl | assumption) ?_
                first
                | exact Or.inl ⟨fun z => absurd z.1 (by assumption), rfl, rfl⟩
                | exact Or.inl ⟨by omega, rfl, rfl⟩
                | exact Or.inr (Or.inl ⟨⟨by assumption, by omega⟩, by omega, rfl, rfl⟩)
                | (refine Or.inr (Or.inr ⟨CC, ?_, rfl⟩); ((repeat' split) <;> first | rfl | (exfalso; omega) | (exfalso; apply absurd ‹inW c3 2 10 a›; assumption)); done)
                | fail "leaf"
              by_cases e_64_2 : u = 2
              · rw [e_64_2] at ho_64
                obtain rfl : off_64 = 51 := ho_64.symm.trans (by decide)
                obtain rfl : tgt_64 = 115 := by omega
                refine r_aload (pc := 115) dX10_trial_115 rfl (by first | rfl | exact isRefV_rf _) ?_
                refine r_iload_n (pc := 117) dX10_trial_117 rfl ?_
                refine rj_iconst (pc := 118) dX10_trial_118 ?_
                refine r_callV2 (pc := 119) dX10_trial_119 qX9_faultThing kX10_215 vX9_faultThing (by first | assumption | exact isI.gx (by assumption) | exact isI.gc (by assumption) | exact isW.gx (by assumption) | exact isW.gF (by assumption) | exact isW.gT (by assumption) (by omega) | exact isW.gS (by assumption) (by omega) | exact isW.gK (by assumption) (by omega) | exact isW.g1 (by assumption) | exact isW.g2 (by assumption) | exact isW.g3 (by assumption) | exact isI.gx (isW.i0 (by assumption)) | exact isI.gc (isW.i0 (by assumption)) | exact isI.gx (isW.i1 (by assumption)) | exact isI.gc (isW.i1 (by assumption)) | exact isI.gx (isW.i2 (by assumption)) | exact isI.gc (isW.i2 (by assumption)) | exact isI.gx (isW.i3 (by assumption)) | exact isI.gc (isW.i3 (by assumption)) | exact isI.gx (isW.i4 (by assumption)) | exact isI.gc (isW.i4 (by assumption)) | exact isI.gx (isW.i5 (by assumption)) | exact isI.gc (isW.i5 (by assumption)) | exact isR.gx (by assumption) | exact isRd.gx (by assumption) | exact isSp.gx (by assumption) | exact isI.gx (isR.i (by assumption)) | exact isI.gx (isRd.i (by assumption)) | exact isI.gc (isRd.i (by assumption)) | exact isI.gx (isSp.i (by assumption)) | exact isW.gx (isR.w (by assumption)) | exact isW.gF (isR.w (by assumption)) | exact isK.gx (by assumption) | exact isK.gr (by assumption) | exact isI.gx (isK.row (by assumption) (by omega)) | exact isI.gc (isK.row (by assumption) (by omega)) | fail "no such object") rfl rfl (Nat.le_of_ble_eq_true rfl) (cq_faultThing _ U_51 hc3 hF1 hF2 hF3 hF4 hF5 (hC3 5) ha (k := 0) (by decide) (by decide)) (fun v_119 h_119 q_119 => ?_)
                obtain ⟨rfl, rfl⟩ := q_119
                refine r_ireturn (pc := 122) .int dX10_trial_122 rfl (by first | rfl | assumption) ?_
                first
                | exact Or.inl ⟨fun z => absurd z.1 (by assumption), rfl, rfl⟩
                | exact Or.inl ⟨by omega, rfl, rfl⟩
                | exact Or.inr (Or.inl ⟨⟨by assumption, by omega⟩, by omega, rfl, rfl⟩)
                | (refine Or.inr (Or.inr ⟨CC, ?_, rfl⟩); ((repeat' split) <;> first | rfl | (exfalso; omega) | (exfalso; apply absurd ‹inW c3 2 10 a›; assumption)); done)
                | fail "leaf"
              by_cases e_64_3 : u = 3
              · rw [e_64_3] at ho_64
                obtain rfl : off_64 = 59 := ho_64.symm.trans (by decide)
                obtain rfl : tgt_64 = 123 := by omega
                refine r_aload (pc := 123) dX10_trial_123 rfl (by first | rfl | exact isRefV_rf _) ?_
                refine r_ifnonnull (pc := 125) (tgt := 132) dX10_trial_125 (by decide) (by first | rfl | exact isRefV_rf _) (fun a_125 c_125 => by cases c_125) (fun c_125 => ?_)
                refine rj_iconst (pc := 128) dX10_trial_128 ?_
                refine r_goto (pc := 129) (tgt := 137) dX10_trial_129 (by decide) ?_
                refine r_ireturn (pc := 137) .int dX10_trial_137 rfl (by first | rfl | assumption) ?_
                first
                | exact Or.inl ⟨fun z => absurd z.1 (by assumption), rfl, rfl⟩
                | exact Or.inl ⟨by omega, rfl, rfl⟩
                | exact Or.inr (Or.inl ⟨⟨by assumption, by omega⟩, by omega, rfl, rfl⟩)
                | (refine Or.inr (Or.inr ⟨CC, ?_, rfl⟩); ((repeat' split) <;> first | rfl | (exfalso; omega) | (exfalso; apply absurd ‹inW c3 2 10 a›; assumption)); done)
                | fail "leaf"
              by_cases e_64_4 : u = 4
              · rw [e_64_4] at ho_64
                obtain rfl : off_64 = 74 := ho_64.symm.trans (by decide)
                obtain rfl : tgt_64 = 138 := by omega
                refine r_aload (pc := 138) dX10_trial_138 rfl (by first | rfl | exact isRefV_rf _) ?_
                refine r_ifnonnull (pc := 140) (tgt := 147) dX10_trial_140 (by decide) (by first | rfl | exact isRefV_rf _) (fun a_140 c_140 => by cases c_140) (fun c_140 => ?_)
                refine rj_iconst (pc := 143) dX10_trial_143 ?_
                refine r_goto (pc := 144) (tgt := 152) dX10_trial_144 (by decide) ?_
                refine r_ireturn (pc := 152) .int dX10_trial_152 rfl (by first | rfl | assumption) ?_
                first
                | exact Or.inl ⟨fun z => absurd z.1 (by assumption), rfl, rfl⟩
                | exact Or.inl ⟨by omega, rfl, rfl⟩
                | exact Or.inr (Or.inl ⟨⟨by assumption, by omega⟩, by omega, rfl, rfl⟩)
                | (refine Or.inr (Or.inr ⟨CC, ?_, rfl⟩); ((repeat' split) <;> first | rfl | (exfalso; omega) | (exfalso; apply absurd ‹inW c3 2 10 a›; assumption)); done)
                | fail "leaf"
              have eo_64 : off_64 = 89 := by
                rw [← ho_64]
                unfold tswOff
                rw [if_pos (by omega)]
              obtain rfl : tgt_64 = 153 := by omega
              refine r_aload (pc := 153) dX10_trial_153 rfl (by first | rfl | exact isRefV_rf _) ?_
              refine r_getf (pc := 155) dX10_trial_155 fX10_218 (by first | assumption | exact isI.gx (by assumption) | exact isI.gc (by assumption) | exact isW.gx (by assumption) | exact isW.gF (by assumption) | exact isW.gT (by assumption) (by omega) | exact isW.gS (by assumption) (by omega) | exact isW.gK (by assumption) (by omega) | exact isW.g1 (by assumption) | exact isW.g2 (by assumption) | exact isW.g3 (by assumption) | exact isI.gx (isW.i0 (by assumption)) | exact isI.gc (isW.i0 (by assumption)) | exact isI.gx (isW.i1 (by assumption)) | exact isI.gc (isW.i1 (by assumption)) | exact isI.gx (isW.i2 (by assumption)) | exact isI.gc (isW.i2 (by assumption)) | exact isI.gx (isW.i3 (by assumption)) | exact isI.gc (isW.i3 (by assumption)) | exact isI.gx (isW.i4 (by assumption)) | exact isI.gc (isW.i4 (by assumption)) | exact isI.gx (isW.i5 (by assumption)) | exact isI.gc (isW.i5 (by assumption)) | exact isR.gx (by assumption) | exact isRd.gx (by assumption) | exact isSp.gx (by assumption) | exact isI.gx (isR.i (by assumption)) | exact isI.gx (isRd.i (by assumption)) | exact isI.gc (isRd.i (by assumption)) | exact isI.gx (isSp.i (by assumption)) | exact isW.gx (isR.w (by assumption)) | exact isW.gF (isR.w (by assumption)) | exact isK.gx (by assumption) | exact isK.gr (by assumption) | exact isI.gx (isK.row (by assumption) (by omega)) | exact isI.gc (isK.row (by assumption) (by omega)) | fail "no such object") (by rfl) ?_
              refine r_getf (pc := 158) dX10_trial_158 fX10_55 (by first | assumption | exact isI.gx (by assumption) | exact isI.gc (by assumption) | exact isW.gx (by assumption) | exact isW.gF (by assumption) | exact isW.gT (by assumption) (by omega) | exact isW.gS (by assumption) (by omega) | exact isW.gK (by assumption) (by omega) | exact isW.g1 (by assumption) | exact isW.g2 (by assumption) | exact isW.g3 (by assumption) | exact isI.gx (isW.i0 (by assumption)) | exact isI.gc (isW.i0 (by assumption)) | exact isI.gx (isW.i1 (by assumption)) | exact isI.gc (isW.i1 (by assumption)) | exact isI.gx (isW.i2 (by assumption)) | exact isI.gc (isW.i2 (by assumption)) | exact isI.gx (isW.i3 (by assumption)) | exact isI.gc (isW.i3 (by assumption)) | exact isI.gx (isW.i4 (by assumption)) | exact isI.gc (isW.i4 (by assumption)) | exact isI.gx (isW.i5 (by assumption)) | exact isI.gc (isW.i5 (by assumption)) | exact isR.gx (by assumption) | exact isRd.gx (by assumption) | exact isSp.gx (by assumption) | exact isI.gx (isR.i (by assumption)) | exact isI.gx (isRd.i (by assumption)) | exact isI.gc (isRd.i (by assumption)) | exact isI.gx (isSp.i (by assumption)) | exact isW.gx (isR.w (by assumption)) | exact isW.gF (isR.w (by assumption)) | exact isK.gx (by assumption) | exact isK.gr (by assumption) | exact isI.gx (isK.row (by assumption) (by omega)) | exact isI.gc (isK.row (by assumption) (by omega)) | fail "no such object") (by rfl) ?_
              refine r_ireturn (pc := 161) .int dX10_trial_161 rfl (by first | rfl | assumption) ?_
              first
              | exact Or.inl ⟨fun z => absurd z.1 (by assumption), rfl, rfl⟩
              | exact Or.inl ⟨by omega, rfl, rfl⟩
              | exact Or.inr (Or.inl ⟨⟨by assumption, by omega⟩, by omega, rfl, rfl⟩)
              | (refine Or.inr (Or.inr ⟨CC, ?_, rfl⟩); ((repeat' split) <;> first | rfl | (exfalso; omega) | (exfalso; apply absurd ‹inW c3 2 10 a›; assumption)); done)
              | fail "leaf"
          · refine rj_bipush (pc := 32) dX10_trial_32 (by decide +kernel) ?_
            refine r_ireturn (pc := 34) .int dX10_trial_34 rfl (by first | rfl | assumption) ?_
            first
            | exact Or.inl ⟨fun z => absurd z.1 (by assumption), rfl, rfl⟩
            | exact Or.inl ⟨by omega, rfl, rfl⟩
            | exact Or.inr (Or.inl ⟨⟨by assumption, by omega⟩, by omega, rfl, rfl⟩)
            | (refine Or.inr (Or.inr ⟨CC, ?_, rfl⟩); ((repeat' split) <;> first | rfl | (exfalso; omega) | (exfalso; apply absurd ‹inW c3 2 10 a›; assumption)); done)
            | fail "leaf"
      · refine rj_iconst (pc := 20) dX10_trial_20 ?_
        refine r_ireturn (pc := 21) .int dX10_trial_21 rfl (by first | rfl | assumption) ?_
        first
        | exact Or.inl ⟨fun z => absurd z.1 (by assumption), rfl, rfl⟩
        | exact Or.inl ⟨by omega, rfl, rfl⟩
        | exact Or.inr (Or.inl ⟨⟨by assumption, by omega⟩, by omega, rfl, rfl⟩)
        | (refine Or.inr (Or.inr ⟨CC, ?_, rfl⟩); ((repeat' split) <;> first | rfl | (exfalso; omega) | (exfalso; apply absurd ‹inW c3 2 10 a›; assumption)); done)
        | fail "leaf"
  · obtain rfl := tkAt_N e_5 q1_5
    refine r_ifnull (pc := 8) (tgt := 20) dX10_trial_8 (by decide) (by first | rfl | exact isRefV_rf _) (fun c_8 => ?_) (fun a_8 c_8 => by cases c_8)
    refine rj_iconst (pc := 20) dX10_trial_20 ?_
    refine r_ireturn (pc := 21) .int dX10_trial_21 rfl (by first | rfl | assumption) ?_
    first
    | exact Or.inl ⟨fun z => absurd z.1 (by assumption), rfl, rfl⟩
    | exact Or.inl ⟨by omega, rfl, rfl⟩
    | exact Or.inr (Or.inl ⟨⟨by assumption, by omega⟩, by omega, rfl, rfl⟩)
    | (refine Or.inr (Or.inr ⟨CC, ?_, rfl⟩); ((repeat' split) <;> first | rfl | (exfalso; omega) | (exfalso; apply absurd ‹inW c3 2 10 a›; assumption)); done)
    | fail "leaf"

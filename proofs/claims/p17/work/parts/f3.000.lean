set_option maxHeartbeats 4000000 in
set_option maxRecDepth 100000 in
theorem kg_would {G : mG} {l : Launch} (d : Nat) {h : mH} {x : Nat} {kp tk : Option Nat} {zr : Nat → Int} {fr : Nat → Nat → Int} {p e o zt : Int} {ft : Nat → Int} {zs : Int} {fs : Nat → Int} {b za : Int} {fa : Nat → Int} {c : Nat → Int} {C : Nat → Nat → Int} {nm : Nat → Int64} {g : Nat → Option Nat} (hK : isK h x kp tk zr fr p e o zt ft zs fs b za fa c C nm g) (hc : ∀ q, InR (c q)) (hC : ∀ k q, InR (C k q)) {a : Int} (ha : InR a) {i : Int} (hi : InR i) {h1 h2 : mH} {r2 : Nat} {b2 z2 : Int} {f2 : Nat → Int} {c2 : Nat → Int} {C2 : Nat → Nat → Int} {nm2 : Nat → Int64} {g2 : Nat → Option Nat} {b3 z3 : Int} {f3 : Nat → Int} {c3 : Nat → Int} {C3 : Nat → Nat → Int} {nm3 : Nat → Int64} {g3 : Nat → Option Nat} {n1 : Int} (hn1 : InR n1) (T : ((inW c 1 60 a ∧ (0 ≤ i ∧ i ≤ 5)) ∧ c (304 + 3 * a.toNat) = 0) → RUNM G l (d + 14) mX10_thinkerOfNow [.ref x] h (fun v h' => v = some (.ref r2) ∧ h' = h1)) (hR2 : ((inW c 1 60 a ∧ (0 ≤ i ∧ i ≤ 5)) ∧ c (304 + 3 * a.toNat) = 0) → isR h1 r2 b2 z2 f2 c2 C2 nm2 g2) (E : ((inW c 1 60 a ∧ (0 ≤ i ∧ i ≤ 5)) ∧ c (304 + 3 * a.toNat) = 0) → RUNM G l (d + 14) mX3_endInCall [.ref r2, .int (J (100 + a))] h1 (fun v h' => v = some (.int (J n1)) ∧ h' = h2)) (hR3 : ((inW c 1 60 a ∧ (0 ≤ i ∧ i ≤ 5)) ∧ c (304 + 3 * a.toNat) = 0) → isR h2 r2 b3 z3 f3 c3 C3 nm3 g3) (hK3 : ((inW c 1 60 a ∧ (0 ≤ i ∧ i ≤ 5)) ∧ c (304 + 3 * a.toNat) = 0) → isK h2 x kp (some r2) zr fr p e o zt ft zs fs b za fa c C nm g) (hc3 : ∀ q, InR (c3 q)) (hC3 : ∀ k q, InR (C3 k q)) (hO3 : ((inW c 1 60 a ∧ (0 ≤ i ∧ i ≤ 5)) ∧ c (304 + 3 * a.toNat) = 0) → oOk c3) {N : Nat} (hN : ((inW c 1 60 a ∧ (0 ≤ i ∧ i ≤ 5)) ∧ c (304 + 3 * a.toNat) = 0) → c3 0 = (N : Int) ∧ N ≤ 90) {F : Nat} (hF : ((inW c 1 60 a ∧ (0 ≤ i ∧ i ≤ 5)) ∧ c (304 + 3 * a.toNat) = 0) → (c3 11 = (F : Int) ∧ c3 12 = (F : Int) ∧ c3 13 = (F : Int)) ∧ F ≤ 90 ∧ (0 ≤ c3 4 ∧ c3 4 ≤ (F : Int))) : RUNM G l (d + 15) mX10_would [.ref x, .int (J a), .int (J i)] h (fun v h' => (¬ (inW c 1 60 a ∧ (0 ≤ i ∧ i ≤ 5)) ∧ v = some (.int (J (-1))) ∧ h' = h) ∨ ((inW c 1 60 a ∧ (0 ≤ i ∧ i ≤ 5)) ∧ ¬ c (304 + 3 * a.toNat) = 0 ∧ v = some (.int (J (-3))) ∧ h' = h) ∨ (((inW c 1 60 a ∧ (0 ≤ i ∧ i ≤ 5)) ∧ c (304 + 3 * a.toNat) = 0) ∧ v = some (.int (J (if i = 0 then n1 else if i = 1 then fnF c3 (C3 5) (C3 3) F (-1) 0 else if i = 2 then fgF c3 (C3 5) (C3 4) F (-1) 0 else if i = 3 then c3 9 - c 9 else if i = 4 then c3 0 - c 0 else cnt (hwB c3 0) N))) ∧ h' = h2)) := by
  refine RUNM.of (by decide +kernel) (Nat.le_of_ble_eq_true rfl) ?_
  have hD := hK.d
  have hS := hK.s
  have hR := hK.r
  have hW := hK.w
  refine r_aload_n (pc := 0) dX10_would_0 rfl (by first | rfl | exact isRefV_rf _) ?_
  refine r_getf (pc := 1) dX10_would_1 fX10_51 (by first | assumption | exact isI.gx (by assumption) | exact isI.gc (by assumption) | exact isW.gx (by assumption) | exact isW.gF (by assumption) | exact isW.gT (by assumption) (by omega) | exact isW.gS (by assumption) (by omega) | exact isW.gK (by assumption) (by omega) | exact isW.g1 (by assumption) | exact isW.g2 (by assumption) | exact isW.g3 (by assumption) | exact isI.gx (isW.i0 (by assumption)) | exact isI.gc (isW.i0 (by assumption)) | exact isI.gx (isW.i1 (by assumption)) | exact isI.gc (isW.i1 (by assumption)) | exact isI.gx (isW.i2 (by assumption)) | exact isI.gc (isW.i2 (by assumption)) | exact isI.gx (isW.i3 (by assumption)) | exact isI.gc (isW.i3 (by assumption)) | exact isI.gx (isW.i4 (by assumption)) | exact isI.gc (isW.i4 (by assumption)) | exact isI.gx (isW.i5 (by assumption)) | exact isI.gc (isW.i5 (by assumption)) | exact isR.gx (by assumption) | exact isRd.gx (by assumption) | exact isSp.gx (by assumption) | exact isI.gx (isR.i (by assumption)) | exact isI.gx (isRd.i (by assumption)) | exact isI.gc (isRd.i (by assumption)) | exact isI.gx (isSp.i (by assumption)) | exact isW.gx (isR.w (by assumption)) | exact isW.gF (isR.w (by assumption)) | exact isK.gx (by assumption) | exact isK.gr (by assumption) | exact isI.gx (isK.row (by assumption) (by omega)) | exact isI.gc (isK.row (by assumption) (by omega)) | fail "no such object") (by rfl) ?_
  refine r_iload_n (pc := 4) dX10_would_4 rfl ?_
  refine r_callV1 (pc := 5) dX10_would_5 qX9_scopeAt kX10_95 vX9_scopeAt (by first | assumption | exact isI.gx (by assumption) | exact isI.gc (by assumption) | exact isW.gx (by assumption) | exact isW.gF (by assumption) | exact isW.gT (by assumption) (by omega) | exact isW.gS (by assumption) (by omega) | exact isW.gK (by assumption) (by omega) | exact isW.g1 (by assumption) | exact isW.g2 (by assumption) | exact isW.g3 (by assumption) | exact isI.gx (isW.i0 (by assumption)) | exact isI.gc (isW.i0 (by assumption)) | exact isI.gx (isW.i1 (by assumption)) | exact isI.gc (isW.i1 (by assumption)) | exact isI.gx (isW.i2 (by assumption)) | exact isI.gc (isW.i2 (by assumption)) | exact isI.gx (isW.i3 (by assumption)) | exact isI.gc (isW.i3 (by assumption)) | exact isI.gx (isW.i4 (by assumption)) | exact isI.gc (isW.i4 (by assumption)) | exact isI.gx (isW.i5 (by assumption)) | exact isI.gc (isW.i5 (by assumption)) | exact isR.gx (by assumption) | exact isRd.gx (by assumption) | exact isSp.gx (by assumption) | exact isI.gx (isR.i (by assumption)) | exact isI.gx (isRd.i (by assumption)) | exact isI.gc (isRd.i (by assumption)) | exact isI.gx (isSp.i (by assumption)) | exact isW.gx (isR.w (by assumption)) | exact isW.gF (isR.w (by assumption)) | exact isK.gx (by assumption) | exact isK.gr (by assumption) | exact isI.gx (isK.row (by assumption) (by omega)) | exact isI.gc (isK.row (by assumption) (by omega)) | fail "no such object") rfl rfl (Nat.le_of_ble_eq_true rfl) (cw_scopeAt _ hW hc ha) (fun v_5 h_5 q_5 => ?_)
  obtain ⟨q1_5, rfl⟩ := q_5
  by_cases e_5 : inW c 1 60 a
  · obtain rfl := scAt_P e_5 q1_5
    refine r_astore_n (pc := 8) dX10_would_8 (Nat.le_of_ble_eq_true rfl) (by first | rfl | exact isRefV_rf _) ?_
    dsimp only [lsSt, List.set, mLs, mEnt]
    refine r_aload_n (pc := 9) dX10_would_9 rfl (by first | rfl | exact isRefV_rf _) ?_
    refine r_ifnull (pc := 10) (tgt := 22) dX10_would_10 (by decide) (by first | rfl | exact isRefV_rf _) (fun c_10 => by cases c_10) (fun a_10 c_10 => ?_)
    refine r_iload_n (pc := 13) dX10_would_13 rfl ?_
    refine rj_if_lt (pc := 14) (tgt := 22) dX10_would_14 (by decide) (by first | exact b01_r | exact bz_r | omega | (constructor <;> omega) | apply_assumption | (apply atF_r; assumption) | fail "no range") (fun c_14 => ?_) (fun c_14 => ?_)
    · refine rj_iconst (pc := 22) dX10_would_22 ?_
      refine r_ireturn (pc := 23) .int dX10_would_23 rfl (by first | rfl | assumption) ?_
      first
      | exact Or.inl ⟨fun z => absurd z.1 (by assumption), rfl, rfl⟩
      | exact Or.inl ⟨by omega, rfl, rfl⟩
      | exact Or.inr (Or.inl ⟨⟨by assumption, by omega⟩, by assumption, rfl, rfl⟩)
      | (refine Or.inr (Or.inr ⟨CC, ?_, rfl⟩); ((repeat' split) <;> first | rfl | (exfalso; omega)); done)
      | fail "leaf"
    · refine r_iload_n (pc := 17) dX10_would_17 rfl ?_
      refine rj_iconst (pc := 18) dX10_would_18 ?_
      refine rj_icmp_le (pc := 19) (tgt := 24) dX10_would_19 (by decide) (by first | exact b01_r | exact bz_r | omega | (constructor <;> omega) | apply_assumption | (apply atF_r; assumption) | fail "no range") (by first | exact b01_r | exact bz_r | omega | (constructor <;> omega) | apply_assumption | (apply atF_r; assumption) | fail "no range") (fun c_19 => ?_) (fun c_19 => ?_)
      · refine r_aload_n (pc := 24) dX10_would_24 rfl (by first | rfl | exact isRefV_rf _) ?_
        refine r_getf (pc := 25) dX10_would_25 fX10_99 (by first | assumption | exact isI.gx (by assumption) | exact isI.gc (by assumption) | exact isW.gx (by assumption) | exact isW.gF (by assumption) | exact isW.gT (by assumption) (by omega) | exact isW.gS (by assumption) (by omega) | exact isW.gK (by assumption) (by omega) | exact isW.g1 (by assumption) | exact isW.g2 (by assumption) | exact isW.g3 (by assumption) | exact isI.gx (isW.i0 (by assumption)) | exact isI.gc (isW.i0 (by assumption)) | exact isI.gx (isW.i1 (by assumption)) | exact isI.gc (isW.i1 (by assumption)) | exact isI.gx (isW.i2 (by assumption)) | exact isI.gc (isW.i2 (by assumption)) | exact isI.gx (isW.i3 (by assumption)) | exact isI.gc (isW.i3 (by assumption)) | exact isI.gx (isW.i4 (by assumption)) | exact isI.gc (isW.i4 (by assumption)) | exact isI.gx (isW.i5 (by assumption)) | exact isI.gc (isW.i5 (by assumption)) | exact isR.gx (by assumption) | exact isRd.gx (by assumption) | exact isSp.gx (by assumption) | exact isI.gx (isR.i (by assumption)) | exact isI.gx (isRd.i (by assumption)) | exact isI.gc (isRd.i (by assumption)) | exact isI.gx (isSp.i (by assumption)) | exact isW.gx (isR.w (by assumption)) | exact isW.gF (isR.w (by assumption)) | exact isK.gx (by assumption) | exact isK.gr (by assumption) | exact isI.gx (isK.row (by assumption) (by omega)) | exact isI.gc (isK.row (by assumption) (by omega)) | fail "no such object") (by rfl) ?_
        refine rj_if_eq (pc := 28) (tgt := 34) dX10_would_28 (by decide) (by first | exact b01_r | exact bz_r | omega | (constructor <;> omega) | apply_assumption | (apply atF_r; assumption) | fail "no range") (fun c_28 => ?_) (fun c_28 => ?_)
        · try simp only [b01_0, bz_0, Classical.not_not] at c_28
          have CC : ((inW c 1 60 a ∧ (0 ≤ i ∧ i ≤ 5)) ∧ c (304 + 3 * a.toNat) = 0) := ⟨⟨e_5, by omega⟩, by assumption⟩
          refine r_aload_n (pc := 34) dX10_would_34 rfl (by first | rfl | exact isRefV_rf _) ?_
          refine r_callV0 (pc := 35) dX10_would_35 qX10_thinkerOfNow kX10_208 vX10_thinkerOfNow (by first | assumption | exact isI.gx (by assumption) | exact isI.gc (by assumption) | exact isW.gx (by assumption) | exact isW.gF (by assumption) | exact isW.gT (by assumption) (by omega) | exact isW.gS (by assumption) (by omega) | exact isW.gK (by assumption) (by omega) | exact isW.g1 (by assumption) | exact isW.g2 (by assumption) | exact isW.g3 (by assumption) | exact isI.gx (isW.i0 (by assumption)) | exact isI.gc (isW.i0 (by assumption)) | exact isI.gx (isW.i1 (by assumption)) | exact isI.gc (isW.i1 (by assumption)) | exact isI.gx (isW.i2 (by assumption)) | exact isI.gc (isW.i2 (by assumption)) | exact isI.gx (isW.i3 (by assumption)) | exact isI.gc (isW.i3 (by assumption)) | exact isI.gx (isW.i4 (by assumption)) | exact isI.gc (isW.i4 (by assumption)) | exact isI.gx (isW.i5 (by assumption)) | exact isI.gc (isW.i5 (by assumption)) | exact isR.gx (by assumption) | exact isRd.gx (by assumption) | exact isSp.gx (by assumption) | exact isI.gx (isR.i (by assumption)) | exact isI.gx (isRd.i (by assumption)) | exact isI.gc (isRd.i (by assumption)) | exact isI.gx (isSp.i (by assumption)) | exact isW.gx (isR.w (by assumption)) | exact isW.gF (isR.w (by assumption)) | exact isK.gx (by assumption) | exact isK.gr (by assumption) | exact isI.gx (isK.row (by assumption) (by omega)) | exact isI.gc (isK.row (by assumption) (by omega)) | fail "no such object") rfl rfl (Nat.le_of_ble_eq_true rfl) (T CC) (fun v_35 h_35 q_35 => ?_)
          obtain ⟨rfl, e_350⟩ := q_35
          subst e_350
          have R_35 := hR2 CC
          have gr_35 := R_35.gx
          refine r_astore (pc := 38) dX10_would_38 (Nat.le_of_ble_eq_true rfl) (by first | rfl | exact isRefV_rf _) ?_
          dsimp only [lsSt, List.set, mLs, mEnt]
          refine r_aload (pc := 40) dX10_would_40 rfl (by first | rfl | exact isRefV_rf _) ?_
          refine r_getf (pc := 42) dX10_would_42 fX10_47 (by first | assumption | exact isI.gx (by assumption) | exact isI.gc (by assumption) | exact isW.gx (by assumption) | exact isW.gF (by assumption) | exact isW.gT (by assumption) (by omega) | exact isW.gS (by assumption) (by omega) | exact isW.gK (by assumption) (by omega) | exact isW.g1 (by assumption) | exact isW.g2 (by assumption) | exact isW.g3 (by assumption) | exact isI.gx (isW.i0 (by assumption)) | exact isI.gc (isW.i0 (by assumption)) | exact isI.gx (isW.i1 (by assumption)) | exact isI.gc (isW.i1 (by assumption)) | exact isI.gx (isW.i2 (by assumption)) | exact isI.gc (isW.i2 (by assumption)) | exact isI.gx (isW.i3 (by assumption)) | exact isI.gc (isW.i3 (by assumption)) | exact isI.gx (isW.i4 (by assumption)) | exact isI.gc (isW.i4 (by assumption)) | exact isI.gx (isW.i5 (by assumption)) | exact isI.gc (isW.i5 (by assumption)) | exact isR.gx (by assumption) | exact isRd.gx (by assumption) | exact isSp.gx (by assumption) | exact isI.gx (isR.i (by assumption)) | exact isI.gx (isRd.i (by assumption)) | exact isI.gc (isRd.i (by assumption)) | exact isI.gx (isSp.i (by assumption)) | exact isW.gx (isR.w (by assumption)) | exact isW.gF (isR.w (by assumption)) | exact isK.gx (by assumption) | exact isK.gr (by assumption) | exact isI.gx (isK.row (by assumption) (by omega)) | exact isI.gc (isK.row (by assumption) (by omega)) | fail "no such object") (by rfl) ?_
          refine r_astore (pc := 45) dX10_would_45 (Nat.le_of_ble_eq_true rfl) (by first | rfl | exact isRefV_rf _) ?_
          dsimp only [lsSt, List.set, mLs, mEnt]
          refine r_aload (pc := 47) dX10_would_47 rfl (by first | rfl | exact isRefV_rf _) ?_
          refine rj_bipush (pc := 49) dX10_would_49 (by decide +kernel) ?_
          refine r_iload_n (pc := 51) dX10_would_51 rfl ?_
          refine rj_iadd (pc := 52) dX10_would_52 ?_
          refine r_callV1 (pc := 53) dX10_would_53 qX3_endInCall kX10_137 vX3_endInCall (by first | assumption | exact isI.gx (by assumption) | exact isI.gc (by assumption) | exact isW.gx (by assumption) | exact isW.gF (by assumption) | exact isW.gT (by assumption) (by omega) | exact isW.gS (by assumption) (by omega) | exact isW.gK (by assumption) (by omega) | exact isW.g1 (by assumption) | exact isW.g2 (by assumption) | exact isW.g3 (by assumption) | exact isI.gx (isW.i0 (by assumption)) | exact isI.gc (isW.i0 (by assumption)) | exact isI.gx (isW.i1 (by assumption)) | exact isI.gc (isW.i1 (by assumption)) | exact isI.gx (isW.i2 (by assumption)) | exact isI.gc (isW.i2 (by assumption)) | exact isI.gx (isW.i3 (by assumption)) | exact isI.gc (isW.i3 (by assumption)) | exact isI.gx (isW.i4 (by assumption)) | exact isI.gc (isW.i4 (by assumption)) | exact isI.gx (isW.i5 (by assumption)) | exact isI.gc (isW.i5 (by assumption)) | exact isR.gx (by assumption) | exact isRd.gx (by assumption) | exact isSp.gx (by assumption) | exact isI.gx (isR.i (by assumption)) | exact isI.gx (isRd.i (by assumption)) | exact isI.gc (isRd.i (by assumption)) | exact isI.gx (isSp.i (by assumption)) | exact isW.gx (isR.w (by assumption)) | exact isW.gF (isR.w (by assumption)) | exact isK.gx (by assumption) | exact isK.gr (by assumption) | exact isI.gx (isK.row (by assumption) (by omega)) | exact isI.gc (isK.row (by assumption) (by omega)) | fail "no such object") rfl rfl (Nat.le_of_ble_eq_true rfl) (E CC) (fun v_53 h_53 q_53 => ?_)
          obtain ⟨rfl, e_530⟩ := q_53
          subst e_530
          have R_53 := hR3 CC
          have U_53 := R_53.w
          have gu_53 := U_53.gx
          have K_53 := hK3 CC
          have gx_53 := K_53.gx
          have V_53 := K_53.w
          have gv_53 := V_53.gx
          have hN3 := (hN CC).1
          have hcap := (hN CC).2
          have hF1 := (hF CC).1.1
          have hF2 := (hF CC).1.2.1
          have hF3 := (hF CC).1.2.2
          have hF4 := (hF CC).2.1
          have hF5 := (hF CC).2.2
          refine r_istore (pc := 56) dX10_would_56 (Nat.le_of_ble_eq_true rfl) ?_
          dsimp only [lsSt, List.set, mLs, mEnt]
          refine r_iload_n (pc := 58) dX10_would_58 rfl ?_
          refine rj_tsw (pc := 59) dX10_would_59 (by first | exact b01_r | exact bz_r | omega | (constructor <;> omega) | apply_assumption | (apply atF_r; assumption) | fail "no range") (by decide) (by decide) (by decide) (fun off_59 tgt_59 ho_59 ht_59 => ?_)
          by_cases e_59_0 : i = 0
          · rw [e_59_0] at ho_59
            obtain rfl : off_59 = 33 := ho_59.symm.trans (by decide)
            obtain rfl : tgt_59 = 92 := by omega
            refine r_iload (pc := 92) dX10_would_92 rfl ?_
            refine r_ireturn (pc := 94) .int dX10_would_94 rfl (by first | rfl | assumption) ?_
            first
            | exact Or.inl ⟨fun z => absurd z.1 (by assumption), rfl, rfl⟩
            | exact Or.inl ⟨by omega, rfl, rfl⟩
            | exact Or.inr (Or.inl ⟨⟨by assumption, by omega⟩, by assumption, rfl, rfl⟩)
            | (refine Or.inr (Or.inr ⟨CC, ?_, rfl⟩); ((repeat' split) <;> first | rfl | (exfalso; omega)); done)
            | fail "leaf"
          by_cases e_59_1 : i = 1
          · rw [e_59_1] at ho_59
            obtain rfl : off_59 = 36 := ho_59.symm.trans (by decide)
            obtain rfl : tgt_59 = 95 := by omega
            refine r_aload (pc := 95) dX10_would_95 rfl (by first | rfl | exact isRefV_rf _) ?_
            refine rj_iconst (pc := 97) dX10_would_97 ?_
            refine rj_iconst (pc := 98) dX10_would_98 ?_
            refine r_callV2 (pc := 99) dX10_would_99 qX9_faultNumber kX10_212 vX9_faultNumber (by first | assumption | exact isI.gx (by assumption) | exact isI.gc (by assumption) | exact isW.gx (by assumption) | exact isW.gF (by assumption) | exact isW.gT (by assumption) (by omega) | exact isW.gS (by assumption) (by omega) | exact isW.gK (by assumption) (by omega) | exact isW.g1 (by assumption) | exact isW.g2 (by assumption) | exact isW.g3 (by assumption) | exact isI.gx (isW.i0 (by assumption)) | exact isI.gc (isW.i0 (by assumption)) | exact isI.gx (isW.i1 (by assumption)) | exact isI.gc (isW.i1 (by assumption)) | exact isI.gx (isW.i2 (by assumption)) | exact isI.gc (isW.i2 (by assumption)) | exact isI.gx (isW.i3 (by assumption)) | exact isI.gc (isW.i3 (by assumption)) | exact isI.gx (isW.i4 (by assumption)) | exact isI.gc (isW.i4 (by assumption)) | exact isI.gx (isW.i5 (by assumption)) | exact isI.gc (isW.i5 (by assumption)) | exact isR.gx (by assumption) | exact isRd.gx (by assumption) | exact isSp.gx (by assumption) | exact isI.gx (isR.i (by assumption)) | exact isI.gx (isRd.i (by assumption)) | exact isI.gc (isRd.i (by assumption)) | exact isI.gx (isSp.i (by assumption)) | exact isW.gx (isR.w (by assumption)) | exact isW.gF (isR.w (by assumption)) | exact isK.gx (by assumption) | exact isK.gr (by assumption) | exact isI.gx (isK.row (by assumption) (by omega)) | exact isI.gc (isK.row (by assumption) (by omega)) | fail "no such object") rfl rfl (Nat.le_of_ble_eq_true rfl) (cq_faultNumber _ U_53 hc3 hF1 hF2 hF3 hF4 hF5 (hC3 5) (i := -1) (by decide) (k := 0) (by decide) (by decide)) (fun v_99 h_99 q_99 => ?_)
            obtain ⟨rfl, rfl⟩ := q_99
            refine r_ireturn (pc := 102) .int dX10_would_102 rfl (by first | rfl | assumption) ?_
            first
            | exact Or.inl ⟨fun z => absurd z.1 (by assumption), rfl, rfl⟩
            | exact Or.inl ⟨by omega, rfl, rfl⟩
            | exact Or.inr (Or.inl ⟨⟨by assumption, by omega⟩, by assumption, rfl, rfl⟩)
            | (refine Or.inr (Or.inr ⟨CC, ?_, rfl⟩); ((repeat' split) <;> first | rfl | (exfalso; omega)); done)
            | fail "leaf"
          by_cases e_59_2 : i = 2
          · rw [e_59_2] at ho_59
            obtain rfl : off_59 = 44 := ho_59.symm.trans (by decide)
            obtain rfl : tgt_59 = 103 := by omega
            refine r_aload (pc := 103) dX10_would_103 rfl (by first | rfl | exact isRefV_rf _) ?_
            refine rj_iconst (pc := 105) dX10_would_105 ?_
            refine rj_iconst (pc := 106) dX10_would_106 ?_
            refine r_callV2 (pc := 107) dX10_would_107 qX9_faultThing kX10_215 vX9_faultThing (by first | assumption | exact isI.gx (by assumption) | exact isI.gc (by assumption) | exact isW.gx (by assumption) | exact isW.gF (by assumption) | exact isW.gT (by assumption) (by omega) | exact isW.gS (by assumption) (by omega) | exact isW.gK (by assumption) (by omega) | exact isW.g1 (by assumption) | exact isW.g2 (by assumption) | exact isW.g3 (by assumption) | exact isI.gx (isW.i0 (by assumption)) | exact isI.gc (isW.i0 (by assumption)) | exact isI.gx (isW.i1 (by assumption)) | exact isI.gc (isW.i1 (by assumption)) | exact isI.gx (isW.i2 (by assumption)) | exact isI.gc (isW.i2 (by assumption)) | exact isI.gx (isW.i3 (by assumption)) | exact isI.gc (isW.i3 (by assumption)) | exact isI.gx (isW.i4 (by assumption)) | exact isI.gc (isW.i4 (by assumption)) | exact isI.gx (isW.i5 (by assumption)) | exact isI.gc (isW.i5 (by assumption)) | exact isR.gx (by assumption) | exact isRd.gx (by assumption) | exact isSp.gx (by assumption) | exact isI.gx (isR.i (by assumption)) | exact isI.gx (isRd.i (by assumption)) | exact isI.gc (isRd.i (by assumption)) | exact isI.gx (isSp.i (by assumption)) | exact isW.gx (isR.w (by assumption)) | exact isW.gF (isR.w (by assumption)) | exact isK.gx (by assumption) | exact isK.gr (by assumption) | exact isI.gx (isK.row (by assumption) (by omega)) | exact isI.gc (isK.row (by assumption) (by omega)) | fail "no such object") rfl rfl (Nat.le_of_ble_eq_true rfl) (cq_faultThing _ U_53 hc3 hF1 hF2 hF3 hF4 hF5 (hC3 5) (i := -1) (by decide) (k := 0) (by decide) (by decide)) (fun v_107 h_107 q_107 => ?_)
            obtain ⟨rfl, rfl⟩ := q_107
            refine r_ireturn (pc := 110) .int dX10_would_110 rfl (by first | rfl | assumption) ?_
            first
            | exact Or.inl ⟨fun z => absurd z.1 (by assumption), rfl, rfl⟩
            | exact Or.inl ⟨by omega, rfl, rfl⟩
            | exact Or.inr (Or.inl ⟨⟨by assumption, by omega⟩, by assumption, rfl, rfl⟩)
            | (refine Or.inr (Or.inr ⟨CC, ?_, rfl⟩); ((repeat' split) <;> first | rfl | (exfalso; omega)); done)
            | fail "leaf"
          by_cases e_59_3 : i = 3
          · rw [e_59_3] at ho_59
            obtain rfl : off_59 = 52 := ho_59.symm.trans (by decide)
            obtain rfl : tgt_59 = 111 := by omega
            refine r_aload (pc := 111) dX10_would_111 rfl (by first | rfl | exact isRefV_rf _) ?_
            refine r_getf (pc := 113) dX10_would_113 fX10_218 (by first | assumption | exact isI.gx (by assumption) | exact isI.gc (by assumption) | exact isW.gx (by assumption) | exact isW.gF (by assumption) | exact isW.gT (by assumption) (by omega) | exact isW.gS (by assumption) (by omega) | exact isW.gK (by assumption) (by omega) | exact isW.g1 (by assumption) | exact isW.g2 (by assumption) | exact isW.g3 (by assumption) | exact isI.gx (isW.i0 (by assumption)) | exact isI.gc (isW.i0 (by assumption)) | exact isI.gx (isW.i1 (by assumption)) | exact isI.gc (isW.i1 (by assumption)) | exact isI.gx (isW.i2 (by assumption)) | exact isI.gc (isW.i2 (by assumption)) | exact isI.gx (isW.i3 (by assumption)) | exact isI.gc (isW.i3 (by assumption)) | exact isI.gx (isW.i4 (by assumption)) | exact isI.gc (isW.i4 (by assumption)) | exact isI.gx (isW.i5 (by assumption)) | exact isI.gc (isW.i5 (by assumption)) | exact isR.gx (by assumption) | exact isRd.gx (by assumption) | exact isSp.gx (by assumption) | exact isI.gx (isR.i (by assumption)) | exact isI.gx (isRd.i (by assumption)) | exact isI.gc (isRd.i (by assumption)) | exact isI.gx (isSp.i (by assumption)) | exact isW.gx (isR.w (by assumption)) | exact isW.gF (isR.w (by assumption)) | exact isK.gx (by assumption) | exact isK.gr (by assumption) | exact isI.gx (isK.row (by assumption) (by omega)) | exact isI.gc (isK.row (by assumption) (by omega)) | fail "no such object") (by rfl) ?_
            refine r_getf (pc := 116) dX10_would_116 fX10_55 (by first | assumption | exact isI.gx (by assumption) | exact isI.gc (by assumption) | exact isW.gx (by assumption) | exact isW.gF (by assumption) | exact isW.gT (by assumption) (by omega) | exact isW.gS (by assumption) (by omega) | exact isW.gK (by assumption) (by omega) | exact isW.g1 (by assumption) | exact isW.g2 (by assumption) | exact isW.g3 (by assumption) | exact isI.gx (isW.i0 (by assumption)) | exact isI.gc (isW.i0 (by assumption)) | exact isI.gx (isW.i1 (by assumption)) | exact isI.gc (isW.i1 (by assumption)) | exact isI.gx (isW.i2 (by assumption)) | exact isI.gc (isW.i2 (by assumption)) | exact isI.gx (isW.i3 (by assumption)) | exact isI.gc (isW.i3 (by assumption)) | exact isI.gx (isW.i4 (by assumption)) | exact isI.gc (isW.i4 (by assumption)) | exact isI.gx (isW.i5 (by assumption)) | exact isI.gc (isW.i5 (by assumption)) | exact isR.gx (by assumption) | exact isRd.gx (by assumption) | exact isSp.gx (by assumption) | exact isI.gx (isR.i (by assumption)) | exact isI.gx (isRd.i (by assumption)) | exact isI.gc (isRd.i (by assumption)) | exact isI.gx (isSp.i (by assumption)) | exact isW.gx (isR.w (by assumption)) | exact isW.gF (isR.w (by assumption)) | exact isK.gx (by assumption) | exact isK.gr (by assumption) | exact isI.gx (isK.row (by assumption) (by omega)) | exact isI.gc (isK.row (by assumption) (by omega)) | fail "no such object") (by rfl) ?_
            refine r_aload_n (pc := 119) dX10_would_119 rfl (by first | rfl | exact isRefV_rf _) ?_
            refine r_getf (pc := 120) dX10_would_120 fX10_51 (by first | assumption | exact isI.gx (by assumption) | exact isI.gc (by assumption) | exact isW.gx (by assumption) | exact isW.gF (by assumption) | exact isW.gT (by assumption) (by omega) | exact isW.gS (by assumption) (by omega) | exact isW.gK (by assumption) (by omega) | exact isW.g1 (by assumption) | exact isW.g2 (by assumption) | exact isW.g3 (by assumption) | exact isI.gx (isW.i0 (by assumption)) | exact isI.gc (isW.i0 (by assumption)) | exact isI.gx (isW.i1 (by assumption)) | exact isI.gc (isW.i1 (by assumption)) | exact isI.gx (isW.i2 (by assumption)) | exact isI.gc (isW.i2 (by assumption)) | exact isI.gx (isW.i3 (by assumption)) | exact isI.gc (isW.i3 (by assumption)) | exact isI.gx (isW.i4 (by assumption)) | exact isI.gc (isW.i4 (by assumption)) | exact isI.gx (isW.i5 (by assumption)) | exact isI.gc (isW.i5 (by assumption)) | exact isR.gx (by assumption) | exact isRd.gx (by assumption) | exact isSp.gx (by assumption) | exact isI.gx (isR.i (by assumption)) | exact isI.gx (isRd.i (by assumption)) | exact isI.gc (isRd.i (by assumption)) | exact isI.gx (isSp.i (by assumption)) | exact isW.gx (isR.w (by assumption)) | exact isW.gF (isR.w (by assumption)) | exact isK.gx (by assumption) | exact isK.gr (by assumption) | exact isI.gx (isK.row (by assumption) (by omega)) | exact isI.gc (isK.row (by assumption) (by omega)) | fail "no such object") (by rfl) ?_
            refine r_getf (pc := 123) dX10_would_123 fX10_218 (by first | assumption | exact isI.gx (by assumption) | exact isI.gc (by assumption) | exact isW.gx (by assumption) | exact isW.gF (by assumption) | exact isW.gT (by assumption) (by omega) | exact isW.gS (by assumption) (by omega) | exact isW.gK (by assumption) (by omega) | exact isW.g1 (by assumption) | exact isW.g2 (by assumption) | exact isW.g3 (by assumption) | exact isI.gx (isW.i0 (by assumption)) | exact isI.gc (isW.i0 (by assumption)) | exact isI.gx (isW.i1 (by assumption)) | exact isI.gc (isW.i1 (by assumption)) | exact isI.gx (isW.i2 (by assumption)) | exact isI.gc (isW.i2 (by assumption)) | exact isI.gx (isW.i3 (by assumption)) | exact isI.gc (isW.i3 (by assumption)) | exact isI.gx (isW.i4 (by assumption)) | exact isI.gc (isW.i4 (by assumption)) | exact isI.gx (isW.i5 (by assumption)) | exact isI.gc (isW.i5 (by assumption)) | exact isR.gx (by assumption) | exact isRd.gx (by assumption) | exact isSp.gx (by assumption) | exact isI.gx (isR.i (by assumption)) | exact isI.gx (isRd.i (by assumption)) | exact isI.gc (isRd.i (by assumption)) | exact isI.gx (isSp.i (by assumption)) | exact isW.gx (isR.w (by assumption)) | exact isW.gF (isR.w (by assumption)) | exact isK.gx (by assumption) | exact isK.gr (by assumption) | exact isI.gx (isK.row (by assumption) (by omega)) | exact isI.gc (isK.row (by assumption) (by omega)) | fail "no such object") (by rfl) ?_
            refine r_getf (pc := 126) dX10_would_126 fX10_55 (by first | assumption | exact isI.gx (by assumption) | exact isI.gc (by assumption) | exact isW.gx (by assumption) | exact isW.gF (by assumption) | exact isW.gT (by assumption) (by omega) | exact isW.gS (by assumption) (by omega) | exact isW.gK (by assumption) (by omega) | exact isW.g1 (by assumption) | exact isW.g2 (by assumption) | exact isW.g3 (by assumption) | exact isI.gx (isW.i0 (by assumption)) | exact isI.gc (isW.i0 (by assumption)) | exact isI.gx (isW.i1 (by assumption)) | exact isI.gc (isW.i1 (by assumption)) | exact isI.gx (isW.i2 (by assumption)) | exact isI.gc (isW.i2 (by assumption)) | exact isI.gx (isW.i3 (by assumption)) | exact isI.gc (isW.i3 (by assumption)) | exact isI.gx (isW.i4 (by assumption)) | exact isI.gc (isW.i4 (by assumption)) | exact isI.gx (isW.i5 (by assumption)) | exact isI.gc (isW.i5 (by assumption)) | exact isR.gx (by assumption) | exact isRd.gx (by assumption) | exact isSp.gx (by assumption) | exact isI.gx (isR.i (by assumption)) | exact isI.gx (isRd.i (by assumption)) | exact isI.gc (isRd.i (by assumption)) | exact isI.gx (isSp.i (by assumption)) | exact isW.gx (isR.w (by assumption)) | exact isW.gF (isR.w (by assumption)) | exact isK.gx (by assumption) | exact isK.gr (by assumption) | exact isI.gx (isK.row (by assumption) (by omega)) | exact isI.gc (isK.row (by assumption) (by omega)) | fail "no such object") (by rfl) ?_
            refine rj_isub (pc := 129) dX10_would_129 ?_
            refine r_ireturn (pc := 130) .int dX10_would_130 rfl (by first | rfl | assumption) ?_
            first
            | exact Or.inl ⟨fun z => absurd z.1 (by assumption), rfl, rfl⟩
            | exact Or.inl ⟨by omega, rfl, rfl⟩
            | exact Or.inr (Or.inl ⟨⟨by assumption, by omega⟩, by assumption, rfl, rfl⟩)
            | (refine Or.inr (Or.inr ⟨CC, ?_, rfl⟩); ((repeat' split) <;> first | rfl | (exfalso; omega)); done)
            | fail "leaf"
          by_cases e_59_4 : i = 4
          · rw [e_59_4] at ho_59
            obtain rfl : off_59 = 72 := ho_59.symm.trans (by decide)
            obtain rfl : tgt_59 = 131 := by omega
            refine r_aload (pc := 131) dX10_would_131 rfl (by first | rfl | exact isRefV_rf _) ?_
            refine r_getf (pc := 133) dX10_would_133 fX10_221 (by first | assumption | exact isI.gx (by assumption) | exact isI.gc (by assumption) | exact isW.gx (by assumption) | exact isW.gF (by assumption) | exact isW.gT (by assumption) (by omega) | exact isW.gS (by assumption) (by omega) | exact isW.gK (by assumption) (by omega) | exact isW.g1 (by assumption) | exact isW.g2 (by assumption) | exact isW.g3 (by assumption) | exact isI.gx (isW.i0 (by assumption)) | exact isI.gc (isW.i0 (by assumption)) | exact isI.gx (isW.i1 (by assumption)) | exact isI.gc (isW.i1 (by assumption)) | exact isI.gx (isW.i2 (by assumption)) | exact isI.gc (isW.i2 (by assumption)) | exact isI.gx (isW.i3 (by assumption)) | exact isI.gc (isW.i3 (by assumption)) | exact isI.gx (isW.i4 (by assumption)) | exact isI.gc (isW.i4 (by assumption)) | exact isI.gx (isW.i5 (by assumption)) | exact isI.gc (isW.i5 (by assumption)) | exact isR.gx (by assumption) | exact isRd.gx (by assumption) | exact isSp.gx (by assumption) | exact isI.gx (isR.i (by assumption)) | exact isI.gx (isRd.i (by assumption)) | exact isI.gc (isRd.i (by assumption)) | exact isI.gx (isSp.i (by assumption)) | exact isW.gx (isR.w (by assumption)) | exact isW.gF (isR.w (by assumption)) | exact isK.gx (by assumption) | exact isK.gr (by assumption) | exact isI.gx (isK.row (by assumption) (by omega)) | exact isI.gc (isK.row (by assumption) (by omega)) | fail "no such object") (by rfl) ?_
            refine r_aload_n (pc := 136) dX10_would_136 rfl (by first | rfl | exact isRefV_rf _) ?_
            refine r_getf (pc := 137) dX10_would_137 fX10_51 (by first | assumption | exact isI.gx (by assumption) | exact isI.gc (by assumption) | exact isW.gx (by assumption) | exact isW.gF (by assumption) | exact isW.gT (by assumption) (by omega) | exact isW.gS (by assumption) (by omega) | exact isW.gK (by assumption) (by omega) | exact isW.g1 (by assumption) | exact isW.g2 (by assumption) | exact isW.g3 (by assumption) | exact isI.gx (isW.i0 (by assumption)) | exact isI.gc (isW.i0 (by assumption)) | exact isI.gx (isW.i1 (by assumption)) | exact isI.gc (isW.i1 (by assumption)) | exact isI.gx (isW.i2 (by assumption)) | exact isI.gc (isW.i2 (by assumption)) | exact isI.gx (isW.i3 (by assumption)) | exact isI.gc (isW.i3 (by assumption)) | exact isI.gx (isW.i4 (by assumption)) | exact isI.gc (isW.i4 (by assumption)) | exact isI.gx (isW.i5 (by assumption)) | exact isI.gc (isW.i5 (by assumption)) | exact isR.gx (by assumption) | exact isRd.gx (by assumption) | exact isSp.gx (by assumption) | exact isI.gx (isR.i (by assumption)) | exact isI.gx (isRd.i (by assumption)) | exact isI.gc (isRd.i (by assumption)) | exact isI.gx (isSp.i (by assumption)) | exact isW.gx (isR.w (by assumption)) | exact isW.gF (isR.w (by assumption)) | exact isK.gx (by assumption) | exact isK.gr (by assumption) | exact isI.gx (isK.row (by assumption) (by omega)) | exact isI.gc (isK.row (by assumption) (by omega)) | fail "no such object") (by rfl) ?_
            refine r_getf (pc := 140) dX10_would_140 fX10_221 (by first | assumption | exact isI.gx (by assumption) | exact isI.gc (by assumption) | exact isW.gx (by assumption) | exact isW.gF (by assumption) | exact isW.gT (by assumption) (by omega) | exact isW.gS (by assumption) (by omega) | exact isW.gK (by assumption) (by omega) | exact isW.g1 (by assumption) | exact isW.g2 (by assumption) | exact isW.g3 (by assumption) | exact isI.gx (isW.i0 (by assumption)) | exact isI.gc (isW.i0 (by assumption)) | exact isI.gx (isW.i1 (by assumption)) | exact isI.gc (isW.i1 (by assumption)) | exact isI.gx (isW.i2 (by assumption)) | exact isI.gc (isW.i2 (by assumption)) | exact isI.gx (isW.i3 (by assumption)) | exact isI.gc (isW.i3 (by assumption)) | exact isI.gx (isW.i4 (by assumption)) | exact isI.gc (isW.i4 (by assumption)) | exact isI.gx (isW.i5 (by assumption)) | exact isI.gc (isW.i5 (by assumption)) | exact isR.gx (by assumption) | exact isRd.gx (by assumption) | exact isSp.gx (by assumption) | exact isI.gx (isR.i (by assumption)) | exact isI.gx (isRd.i (by assumption)) | exact isI.gc (isRd.i (by assumption)) | exact isI.gx (isSp.i (by assumption)) | exact isW.gx (isR.w (by assumption)) | exact isW.gF (isR.w (by assumption)) | exact isK.gx (by assumption) | exact isK.gr (by assumption) | exact isI.gx (isK.row (by assumption) (by omega)) | exact isI.gc (isK.row (by assumption) (by omega)) | fail "no such object") (by rfl) ?_
            refine rj_isub (pc := 143) dX10_would_143 ?_
            refine r_ireturn (pc := 144) .int dX10_would_144 rfl (by first | rfl | assumption) ?_
            first
            | exact Or.inl ⟨fun z => absurd z.1 (by assumption), rfl, rfl⟩
            | exact Or.inl ⟨by omega, rfl, rfl⟩
            | exact Or.inr (Or.inl ⟨⟨by assumption, by omega⟩, by assumption, rfl, rfl⟩)
            | (refine Or.inr (Or.inr ⟨CC, ?_, rfl⟩); ((repeat' split) <;> first | rfl | (exfalso; omega)); done)
            | fail "leaf"
          have eo_59 : off_59 = 86 := by
            rw [← ho_59]
            unfold tswOff
            rw [if_pos (by omega)]
          obtain rfl : tgt_59 = 145 := by omega
          refine r_aload (pc := 145) dX10_would_145 rfl (by first | rfl | exact isRefV_rf _) ?_
          refine rj_iconst (pc := 147) dX10_would_147 ?_
          refine r_callV1 (pc := 148) dX10_would_148 qX9_heldWithin kX10_158 vX9_heldWithin (by first | assumption | exact isI.gx (by assumption) | exact isI.gc (by assumption) | exact isW.gx (by assumption) | exact isW.gF (by assumption) | exact isW.gT (by assumption) (by omega) | exact isW.gS (by assumption) (by omega) | exact isW.gK (by assumption) (by omega) | exact isW.g1 (by assumption) | exact isW.g2 (by assumption) | exact isW.g3 (by assumption) | exact isI.gx (isW.i0 (by assumption)) | exact isI.gc (isW.i0 (by assumption)) | exact isI.gx (isW.i1 (by assumption)) | exact isI.gc (isW.i1 (by assumption)) | exact isI.gx (isW.i2 (by assumption)) | exact isI.gc (isW.i2 (by assumption)) | exact isI.gx (isW.i3 (by assumption)) | exact isI.gc (isW.i3 (by assumption)) | exact isI.gx (isW.i4 (by assumption)) | exact isI.gc (isW.i4 (by assumption)) | exact isI.gx (isW.i5 (by assumption)) | exact isI.gc (isW.i5 (by assumption)) | exact isR.gx (by assumption) | exact isRd.gx (by assumption) | exact isSp.gx (by assumption) | exact isI.gx (isR.i (by assumption)) | exact isI.gx (isRd.i (by assumption)) | exact isI.gc (isRd.i (by assumption)) | exact isI.gx (isSp.i (by assumption)) | exact isW.gx (isR.w (by assumption)) | exact isW.gF (isR.w (by assumption)) | exact isK.gx (by assumption) | exact isK.gr (by assumption) | exact isI.gx (isK.row (by assumption) (by omega)) | exact isI.gc (isK.row (by assumption) (by omega)) | fail "no such object") rfl rfl (Nat.le_of_ble_eq_true rfl) (cq_heldWithin _ U_53 hc3 (hO3 CC) hN3 hcap (i := 0) (by decide)) (fun v_148 h_148 q_148 => ?_)
          obtain ⟨rfl, rfl⟩ := q_148
          refine r_ireturn (pc := 151) .int dX10_would_151 rfl (by first | rfl | assumption) ?_
          first
          | exact Or.inl ⟨fun z => absurd z.1 (by assumption), rfl, rfl⟩
          | exact Or.inl ⟨by omega, rfl, rfl⟩
          | exact Or.inr (Or.inl ⟨⟨by assumption, by omega⟩, by assumption, rfl, rfl⟩)
          | (refine Or.inr (Or.inr ⟨CC, ?_, rfl⟩); ((repeat' split) <;> first | rfl | (exfalso; omega)); done)
          | fail "leaf"
        · try simp only [b01_0, bz_0, Classical.not_not] at c_28
          refine rj_bipush (pc := 31) dX10_would_31 (by decide +kernel) ?_
          refine r_ireturn (pc := 33) .int dX10_would_33 rfl (by first | rfl | assumption) ?_
          first
          | exact Or.inl ⟨fun z => absurd z.1 (by assumption), rfl, rfl⟩
          | exact Or.inl ⟨by omega, rfl, rfl⟩
          | exact Or.inr (Or.inl ⟨⟨by assumption, by omega⟩, by assumption, rfl, rfl⟩)
          | (refine Or.inr (Or.inr ⟨CC, ?_, rfl⟩); ((repeat' split) <;> first | rfl | (exfalso; omega)); done)
          | fail "leaf"
      · refine rj_iconst (pc := 22) dX10_would_22 ?_
        refine r_ireturn (pc := 23) .int dX10_would_23 rfl (by first | rfl | assumption) ?_
        first
        | exact Or.inl ⟨fun z => absurd z.1 (by assumption), rfl, rfl⟩
        | exact Or.inl ⟨by omega, rfl, rfl⟩
        | exact Or.inr (Or.inl ⟨⟨by assumption, by omega⟩, by assumption, rfl, rfl⟩)
        | (refine Or.inr (Or.inr ⟨CC, ?_, rfl⟩); ((repeat' split) <;> first | rfl | (exfalso; omega)); done)
        | fail "leaf"
  · obtain rfl := scAt_N e_5 q1_5
    refine r_astore_n (pc := 8) dX10_would_8 (Nat.le_of_ble_eq_true rfl) (by first | rfl | exact isRefV_rf _) ?_
    dsimp only [lsSt, List.set, mLs, mEnt]
    refine r_aload_n (pc := 9) dX10_would_9 rfl (by first | rfl | exact isRefV_rf _) ?_
    refine r_ifnull (pc := 10) (tgt := 22) dX10_would_10 (by decide) (by first | rfl | exact isRefV_rf _) (fun c_10 => ?_) (fun a_10 c_10 => by cases c_10)
    refine rj_iconst (pc := 22) dX10_would_22 ?_
    refine r_ireturn (pc := 23) .int dX10_would_23 rfl (by first | rfl | assumption) ?_
    first
    | exact Or.inl ⟨fun z => absurd z.1 (by assumption), rfl, rfl⟩
    | exact Or.inl ⟨by omega, rfl, rfl⟩
    | exact Or.inr (Or.inl ⟨⟨by assumption, by omega⟩, by assumption, rfl, rfl⟩)
    | (refine Or.inr (Or.inr ⟨CC, ?_, rfl⟩); ((repeat' split) <;> first | rfl | (exfalso; omega)); done)
    | fail "leaf"

/-! ===== the class: would and trial, on any keeper: who thinks, and where that leaves the heap, is handed in ===== -/
set_option maxHeartbeats 4000000 in
set_option maxRecDepth 100000 in
theorem kg_would {G : mG} {l : Launch} (d : Nat) {h : mH} {x : Nat} {kp tk : Option Nat} {zr : Nat → Int} {fr : Nat → Nat → Int} {p e o zt : Int} {ft : Nat → Int} {zs : Int} {fs : Nat → Int} {b za : Int} {fa : Nat → Int} {c : Nat → Int} {C : Nat → Nat → Int} {nm : Nat → Int64} {g : Nat → Option Nat} (hK : isK h x kp tk zr fr p e o zt ft zs fs b za fa c C nm g) (hc : ∀ q, InR (c q)) (hC : ∀ k q, InR (C k q)) {a : Int} (ha : InR a) {i : Int} (hi : InR i) {h1 h2 : mH} {r2 : Nat} {b2 z2 : Int} {f2 : Nat → Int} {c2 : Nat → Int} {C2 : Nat → Nat → Int} {nm2 : Nat → Int64} {g2 : Nat → Option Nat} {b3 z3 : Int} {f3 : Nat → Int} {c3 : Nat → Int} {C3 : Nat → Nat → Int} {nm3 : Nat → Int64} {g3 : Nat → Option Nat} {n1 : Int} (hn1 : InR n1) (T : ((inW c 1 60 a ∧ (0 ≤ i ∧ i ≤ 5)) ∧ c (304 + 3 * a.toNat) = 0) → RUNM G l (d + 14) mX10_thinkerOfNow [.ref x] h (fun v h' => v = some (.ref r2) ∧ h' = h1)) (hR2 : ((inW c 1 60 a ∧ (0 ≤ i ∧ i ≤ 5)) ∧ c (304 + 3 * a.toNat) = 0) → isR h1 r2 b2 z2 f2 c2 C2 nm2 g2) (E : ((inW c 1 60 a ∧ (0 ≤ i ∧ i ≤ 5)) ∧ c (304 + 3 * a.toNat) = 0) → RUNM G l (d + 14) mX3_endInCall [.ref r2, .int (J (100 + a))] h1 (fun v h' => v = some (.int (J n1)) ∧ h' = h2)) (hR3 : ((inW c 1 60 a ∧ (0 ≤ i ∧ i ≤ 5)) ∧ c (304 + 3 * a.toNat) = 0) → isR h2 r2 b3 z3 f3 c3 C3 nm3 g3) (hK3 : ((inW c 1 60 a ∧ (0 ≤ i ∧ i ≤ 5)) ∧ c (304 + 3 * a.toNat) = 0) → isK h2 x kp (some r2) zr fr p e o zt ft zs fs b za fa c C nm g) (hc3 : ∀ q, InR (c3 q)) (hC3 : ∀ k q, InR (C3 k q)) (hO3 : ((inW c 1 60 a ∧ (0 ≤ i ∧ i ≤ 5)) ∧ c (304 + 3 * a.toNat) = 0) → oOk c3) {N : Nat} (hN : ((inW c 1 60 a ∧ (0 ≤ i ∧ i ≤ 5)) ∧ c (304 + 3 * a.toNat) = 0) → c3 0 = (N : Int) ∧ N ≤ 90) {F : Nat} (hF : ((inW c 1 60 a ∧ (0 ≤ i ∧ i ≤ 5)) ∧ c (304 + 3 * a.toNat) = 0) → (c3 11 = (F : Int) ∧ c3 12 = (F : Int) ∧ c3 13 = (F : Int)) ∧ F ≤ 90 ∧ (0 ≤ c3 4 ∧ c3 4 ≤ (F : Int))) : RUNM G l (d + 15) mX10_would [.ref x, .int (J a), .int (J i)] h (fun v h' => (¬ (inW c 1 60 a ∧ (0 ≤ i ∧ i ≤ 5)) ∧ v = some (.int (J (-1))) ∧ h' = h) ∨ ((inW c 1 60 a ∧ (0 ≤ i ∧ i ≤ 5)) ∧ ¬ c (304 + 3 * a.toNat) = 0 ∧ v = some (.int (J (-3))) ∧ h' = h) ∨ (((inW c 1 60 a ∧ (0 ≤ i ∧ i ≤ 5)) ∧ c (304 + 3 * a.toNat) = 0) ∧ v = some (.int (J (if i = 0 then n1 else if i = 1 then fnF c3 (C3 5) (C3 3) F (-1) 0 else if i = 2 then fgF c3 (C3 5) (C3 4) F (-1) 0 else if i = 3 then c3 9 - c 9 else if i = 4 then c3 0 - c 0 else cnt (hwB c3 0) N))) ∧ h' = h2)) := by
  refine RUNM.of (by decide +kernel) (Nat.le_of_ble_eq_true rfl) ?_
  have hD := hK.d
  have hS := hK.s
  have hR := hK.r
  have hW := hK.w
  refine r_aload_n (pc := 0) dX10_would_0 rfl (by first | rfl | exact isRefV_rf _) ?_
  refine r_getf (pc := 1) dX10_would_1 fX10_51 (by first | assumption | exact isI.gx (by assumption) | exact isI.gc (by assumption) | exact isW.gx (by assumption) | exact isW.gF (by assumption) | exact isW.gT (by assumption) (by omega) | exact isW.gS (by assumption) (by omega) | exact isW.gK (by assumption) (by omega) | exact isW.g1 (by assumption) | exact isW.g2 (by assumption) | exact isW.g3 (by assumption) | exact isI.gx (isW.i0 (by assumption)) | exact isI.gc (isW.i0 (by assumption)) | exact isI.gx (isW.i1 (by assumption)) | exact isI.gc (isW.i1 (by assumption)) | exact isI.gx (isW.i2 (by assumption)) | exact isI.gc (isW.i2 (by assumption)) | exact isI.gx (isW.i3 (by assumption)) | exact isI.gc (isW.i3 (by assumption)) | exact isI.gx (isW.i4 (by assumption)) | exact isI.gc (isW.i4 (by assumption)) | exact isI.gx (isW.i5 (by assumption)) | exact isI.gc (isW.i5 (by assumption)) | exact isR.gx (by assumption) | exact isRd.gx (by assumption) | exact isSp.gx (by assumption) | exact isI.gx (isR.i (by assumption)) | exact isI.gx (isRd.i (by assumption)) | exact isI.gc (isRd.i (by assumption)) | exact isI.gx (isSp.i (by assumption)) | exact isW.gx (isR.w (by assumption)) | exact isW.gF (isR.w (by assumption)) | exact isK.gx (by assumption) | exact isK.gr (by assumption) | exact isI.gx (isK.row (by assumption) (by omega)) | exact isI.gc (isK.row (by assumption) (by omega)) | fail "no such object") (by rfl) ?_
  refine r_iload_n (pc := 4) dX10_would_4 rfl ?_
  refine r_callV1 (pc := 5) dX10_would_5 qX9_scopeAt kX10_95 vX9_scopeAt (by first | assumption | exact isI.gx (by assumption) | exact isI.gc (by assumption) | exact isW.gx (by assumption) | exact isW.gF (by assumption) | exact isW.gT (by assumption) (by omega) | exact isW.gS (by assumption) (by omega) | exact isW.gK (by assumption) (by omega) | exact isW.g1 (by assumption) | exact isW.g2 (by assumption) | exact isW.g3 (by assumption) | exact isI.gx (isW.i0 (by assumption)) | exact isI.gc (isW.i0 (by assumption)) | exact isI.gx (isW.i1 (by assumption)) | exact isI.gc (isW.i1 (by assumption)) | exact isI.gx (isW.i2 (by assumption)) | exact isI.gc (isW.i2 (by assumption)) | exact isI.gx (isW.i3 (by assumption)) | exact isI.gc (isW.i3 (by assumption)) | exact isI.gx (isW.i4 (by assumption)) | exact isI.gc (isW.i4 (by assumption)) | exact isI.gx (isW.i5 (by assumption)) | exact isI.gc (isW.i5 (by assumption)) | exact isR.gx (by assumption) | exact isRd.gx (by assumption) | exact isSp.gx (by assumption) | exact isI.gx (isR.i (by assumption)) | exact isI.gx (isRd.i (by assumption)) | exact isI.gc (isRd.i (by assumption)) | exact isI.gx (isSp.i (by assumption)) | exact isW.gx (isR.w (by assumption)) | exact isW.gF (isR.w (by assumption)) | exact isK.gx (by assumption) | exact isK.gr (by assumption) | exact isI.gx (isK.row (by assumption) (by omega)) | exact isI.gc (isK.row (by assumption) (by omega)) | fail "no such object") rfl rfl (Nat.le_of_ble_eq_true rfl) (cw_scopeAt _ hW hc ha) (fun v_5 h_5 q_5 => ?_)
  obtain ⟨q1_5, rfl⟩ := q_5
  by_cases e_5 : inW c 1 60 a
  · obtain rfl := scAt_P e_5 q1_5
    refine r_astore_n (pc := 8) dX10_would_8 (Nat.le_of_ble_eq_true rfl) (by first | rfl | exact isRefV_rf _) ?_
    dsimp only [lsSt, List.set, mLs, mEnt]
    refine r_aload_n (pc := 9) dX10_would_9 rfl (by first | rfl | exact isRefV_rf _) ?_
    refine r_ifnull (pc := 10) (tgt := 22) dX10_would_10 (by decide) (by first | rfl | exact isRefV_rf _) (fun c_10 => by cases c_10) (fun a_10 c_10 => ?_)
    refine r_iload_n (pc := 13) dX10_would_13 rfl ?_
    refine rj_if_lt (pc := 14) (tgt := 22) dX10_would_14 (by decide) (by first | exact b01_r | exact bz_r | omega | (constructor <;> omega) | apply_assumption | (apply atF_r; assumption) | fail "no range") (fun c_14 => ?_) (fun c_14 => ?_)
    · refine rj_iconst (pc := 22) dX10_would_22 ?_
      refine r_ireturn (pc := 23) .int dX10_would_23 rfl (by first | rfl | assumption) ?_
      first
      | exact Or.inl ⟨fun z => absurd z.1 (by assumption), rfl, rfl⟩
      | exact Or.inl ⟨by omega, rfl, rfl⟩
      | exact Or.inr (Or.inl ⟨⟨by assumption, by omega⟩, by assumption, rfl, rfl⟩)
      | (refine Or.inr (Or.inr ⟨CC, ?_, rfl⟩); ((repeat' split) <;> first | rfl | (exfalso; omega)); done)
      | fail "leaf"
    · refine r_iload_n (pc := 17) dX10_would_17 rfl ?_
      refine rj_iconst (pc := 18) dX10_would_18 ?_
      refine rj_icmp_le (pc := 19) (tgt := 24) dX10_would_19 (by decide) (by first | exact b01_r | exact bz_r | omega | (constructor <;> omega) | apply_assumption | (apply atF_r; assumption) | fail "no range") (by first | exact b01_r | exact bz_r | omega | (constructor <;> omega) | apply_assumption | (apply atF_r; assumption) | fail "no range") (fun c_19 => ?_) (fun c_19 => ?_)
      · refine r_aload_n (pc := 24) dX10_would_24 rfl (by first | rfl | exact isRefV_rf _) ?_
        refine r_getf (pc := 25) dX10_would_25 fX10_99 (by first | assumption | exact isI.gx (by assumption) | exact isI.gc (by assumption) | exact isW.gx (by assumption) | exact isW.gF (by assumption) | exact isW.gT (by assumption) (by omega) | exact isW.gS (by assumption) (by omega) | exact isW.gK (by assumption) (by omega) | exact isW.g1 (by assumption) | exact isW.g2 (by assumption) | exact isW.g3 (by assumption) | exact isI.gx (isW.i0 (by assumption)) | exact isI.gc (isW.i0 (by assumption)) | exact isI.gx (isW.i1 (by assumption)) | exact isI.gc (isW.i1 (by assumption)) | exact isI.gx (isW.i2 (by assumption)) | exact isI.gc (isW.i2 (by assumption)) | exact isI.gx (isW.i3 (by assumption)) | exact isI.gc (isW.i3 (by assumption)) | exact isI.gx (isW.i4 (by assumption)) | exact isI.gc (isW.i4 (by assumption)) | exact isI.gx (isW.i5 (by assumption)) | exact isI.gc (isW.i5 (by assumption)) | exact isR.gx (by assumption) | exact isRd.gx (by assumption) | exact isSp.gx (by assumption) | exact isI.gx (isR.i (by assumption)) | exact isI.gx (isRd.i (by assumption)) | exact isI.gc (isRd.i (by assumption)) | exact isI.gx (isSp.i (by assumption)) | exact isW.gx (isR.w (by assumption)) | exact isW.gF (isR.w (by assumption)) | exact isK.gx (by assumption) | exact isK.gr (by assumption) | exact isI.gx (isK.row (by assumption) (by omega)) | exact isI.gc (isK.row (by assumption) (by omega)) | fail "no such object") (by rfl) ?_
        refine rj_if_eq (pc := 28) (tgt := 34) dX10_would_28 (by decide) (by first | exact b01_r | exact bz_r | omega | (constructor <;> omega) | apply_assumption | (apply atF_r; assumption) | fail "no range") (fun c_28 => ?_) (fun c_28 => ?_)
        · try simp only [b01_0, bz_0, Classical.not_not] at c_28
          have CC : ((inW c 1 60 a ∧ (0 ≤ i ∧ i ≤ 5)) ∧ c (304 + 3 * a.toNat) = 0) := ⟨⟨e_5, by omega⟩, by assumption⟩
          refine r_aload_n (pc := 34) dX10_would_34 rfl (by first | rfl | exact isRefV_rf _) ?_
          refine r_callV0 (pc := 35) dX10_would_35 qX10_thinkerOfNow kX10_208 vX10_thinkerOfNow (by first | assumption | exact isI.gx (by assumption) | exact isI.gc (by assumption) | exact isW.gx (by assumption) | exact isW.gF (by assumption) | exact isW.gT (by assumption) (by omega) | exact isW.gS (by assumption) (by omega) | exact isW.gK (by assumption) (by omega) | exact isW.g1 (by assumption) | exact isW.g2 (by assumption) | exact isW.g3 (by assumption) | exact isI.gx (isW.i0 (by assumption)) | exact isI.gc (isW.i0 (by assumption)) | exact isI.gx (isW.i1 (by assumption)) | exact isI.gc (isW.i1 (by assumption)) | exact isI.gx (isW.i2 (by assumption)) | exact isI.gc (isW.i2 (by assumption)) | exact isI.gx (isW.i3 (by assumption)) | exact isI.gc (isW.i3 (by assumption)) | exact isI.gx (isW.i4 (by assumption)) | exact isI.gc (isW.i4 (by assumption)) | exact isI.gx (isW.i5 (by assumption)) | exact isI.gc (isW.i5 (by assumption)) | exact isR.gx (by assumption) | exact isRd.gx (by assumption) | exact isSp.gx (by assumption) | exact isI.gx (isR.i (by assumption)) | exact isI.gx (isRd.i (by assumption)) | exact isI.gc (isRd.i (by assumption)) | exact isI.gx (isSp.i (by assumption)) | exact isW.gx (isR.w (by assumption)) | exact isW.gF (isR.w (by assumption)) | exact isK.gx (by assumption) | exact isK.gr (by assumption) | exact isI.gx (isK.row (by assumption) (by omega)) | exact isI.gc (isK.row (by assumption) (by omega)) | fail "no such object") rfl rfl (Nat.le_of_ble_eq_true rfl) (T CC) (fun v_35 h_35 q_35 => ?_)
          obtain ⟨rfl, e_350⟩ := q_35
          subst e_350
          have R_35 := hR2 CC
          have gr_35 := R_35.gx
          refine r_astore (pc := 38) dX10_would_38 (Nat.le_of_ble_eq_true rfl) (by first | rfl | exact isRefV_rf _) ?_
          dsimp only [lsSt, List.set, mLs, mEnt]
          refine r_aload (pc := 40) dX10_would_40 rfl (by first | rfl | exact isRefV_rf _) ?_
          refine r_getf (pc := 42) dX10_would_42 fX10_47 (by first | assumption | exact isI.gx (by assumption) | exact isI.gc (by assumption) | exact isW.gx (by assumption) | exact isW.gF (by assumption) | exact isW.gT (by assumption) (by omega) | exact isW.gS (by assumption) (by omega) | exact isW.gK (by assumption) (by omega) | exact isW.g1 (by assumption) | exact isW.g2 (by assumption) | exact isW.g3 (by assumption) | exact isI.gx (isW.i0 (by assumption)) | exact isI.gc (isW.i0 (by assumption)) | exact isI.gx (isW.i1 (by assumption)) | exact isI.gc (isW.i1 (by assumption)) | exact isI.gx (isW.i2 (by assumption)) | exact isI.gc (isW.i2 (by assumption)) | exact isI.gx (isW.i3 (by assumption)) | exact isI.gc (isW.i3 (by assumption)) | exact isI.gx (isW.i4 (by assumption)) | exact isI.gc (isW.i4 (by assumption)) | exact isI.gx (isW.i5 (by assumption)) | exact isI.gc (isW.i5 (by assumption)) | exact isR.gx (by assumption) | exact isRd.gx (by assumption) | exact isSp.gx (by assumption) | exact isI.gx (isR.i (by assumption)) | exact isI.gx (isRd.i (by assumption)) | exact isI.gc (isRd.i (by assumption)) | exact isI.gx (isSp.i (by assumption)) | exact isW.gx (isR.w (by assumption)) | exact isW.gF (isR.w (by assumption)) | exact isK.gx (by assumption) | exact isK.gr (by assumption) | exact isI.gx (isK.row (by assumption) (by omega)) | exact isI.gc (isK.row (by assumption) (by omega)) | fail "no such object") (by rfl) ?_
          refine r_astore (pc := 45) dX10_would_45 (Nat.le_of_ble_eq_true rfl) (by first | rfl | exact isRefV_rf _) ?_
          dsimp only [lsSt, List.set, mLs, mEnt]
          refine r_aload (pc := 47) dX10_would_47 rfl (by first | rfl | exact isRefV_rf _) ?_
          refine rj_bipush (pc := 49) dX10_would_49 (by decide +kernel) ?_
          refine r_iload_n (pc := 51) dX10_would_51 rfl ?_
          refine rj_iadd (pc := 52) dX10_would_52 ?_
          refine r_callV1 (pc := 53) dX10_would_53 qX3_endInCall kX10_137 vX3_endInCall (by first | assumption | exact isI.gx (by assumption) | exact isI.gc (by assumption) | exact isW.gx (by assumption) | exact isW.gF (by assumption) | exact isW.gT (by assumption) (by omega) | exact isW.gS (by assumption) (by omega) | exact isW.gK (by assumption) (by omega) | exact isW.g1 (by assumption) | exact isW.g2 (by assumption) | exact isW.g3 (by assumption) | exact isI.gx (isW.i0 (by assumption)) | exact isI.gc (isW.i0 (by assumption)) | exact isI.gx (isW.i1 (by assumption)) | exact isI.gc (isW.i1 (by assumption)) | exact isI.gx (isW.i2 (by assumption)) | exact isI.gc (isW.i2 (by assumption)) | exact isI.gx (isW.i3 (by assumption)) | exact isI.gc (isW.i3 (by assumption)) | exact isI.gx (isW.i4 (by assumption)) | exact isI.gc (isW.i4 (by assumption)) | exact isI.gx (isW.i5 (by assumption)) | exact isI.gc (isW.i5 (by assumption)) | exact isR.gx (by assumption) | exact isRd.gx (by assumption) | exact isSp.gx (by assumption) | exact isI.gx (isR.i (by assumption)) | exact isI.gx (isRd.i (by assumption)) | exact isI.gc (isRd.i (by assumption)) | exact isI.gx (isSp.i (by assumption)) | exact isW.gx (isR.w (by assumption)) | exact isW.gF (isR.w (by assumption)) | exact isK.gx (by assumption) | exact isK.gr (by assumption) | exact isI.gx (isK.row (by assumption) (by omega)) | exact isI.gc (isK.row (by assumption) (by omega)) | fail "no such object") rfl rfl (Nat.le_of_ble_eq_true rfl) (E CC) (fun v_53 h_53 q_53 => ?_)
          obtain ⟨rfl, e_530⟩ := q_53
          subst e_530
          have R_53 := hR3 CC
          have U_53 := R_53.w
          have gu_53 := U_53.gx
          have K_53 := hK3 CC
          have gx_53 := K_53.gx
          have V_53 := K_53.w
          have gv_53 := V_53.gx
          have hN3 := (hN CC).1
          have hcap := (hN CC).2
          have hF1 := (hF CC).1.1
          have hF2 := (hF CC).1.2.1
          have hF3 := (hF CC).1.2.2
          have hF4 := (hF CC).2.1
          have hF5 := (hF CC).2.2
          refine r_istore (pc := 56) dX10_would_56 (Nat.le_of_ble_eq_true rfl) ?_
          dsimp only [lsSt, List.set, mLs, mEnt]
          refine r_iload_n (pc := 58) dX10_would_58 rfl ?_
          refine rj_tsw (pc := 59) dX10_would_59 (by first | exact b01_r | exact bz_r | omega | (constructor <;> omega) | apply_assumption | (apply atF_r; assumption) | fail "no range") (by decide) (by decide) (by decide) (fun off_59 tgt_59 ho_59 ht_59 => ?_)
          by_cases e_59_0 : i = 0
          · rw [e_59_0] at ho_59
            obtain rfl : off_59 = 33 := ho_59.symm.trans (by decide)
            obtain rfl : tgt_59 = 92 := by omega
            refine r_iload (pc := 92) dX10_would_92 rfl ?_
            refine r_ireturn (pc := 94) .int dX10_would_94 rfl (by first | rfl | assumption) ?_
            first
            | exact Or.inl ⟨fun z => absurd z.1 (by assumption), rfl, rfl⟩
            | exact Or.inl ⟨by omega, rfl, rfl⟩
            | exact Or.inr (Or.inl ⟨⟨by assumption, by omega⟩, by assumption, rfl, rfl⟩)
            | (refine Or.inr (Or.inr ⟨CC, ?_, rfl⟩); ((repeat' split) <;> first | rfl | (exfalso; omega)); done)
            | fail "leaf"
          by_cases e_59_1 : i = 1
          · rw [e_59_1] at ho_59
            obtain rfl : off_59 = 36 := ho_59.symm.trans (by decide)
            obtain rfl : tgt_59 = 95 := by omega
            refine r_aload (pc := 95) dX10_would_95 rfl (by first | rfl | exact isRefV_rf _) ?_
            refine rj_iconst (pc := 97) dX10_would_97 ?_
            refine rj_iconst (pc := 98) dX10_would_98 ?_
            refine r_callV2 (pc := 99) dX10_would_99 qX9_faultNumber kX10_212 vX9_faultNumber (by first | assumption | exact isI.gx (by assumption) | exact isI.gc (by assumption) | exact isW.gx (by assumption) | exact isW.gF (by assumption) | exact isW.gT (by assumption) (by omega) | exact isW.gS (by assumption) (by omega) | exact isW.gK (by assumption) (by omega) | exact isW.g1 (by assumption) | exact isW.g2 (by assumption) | exact isW.g3 (by assumption) | exact isI.gx (isW.i0 (by assumption)) | exact isI.gc (isW.i0 (by assumption)) | exact isI.gx (isW.i1 (by assumption)) | exact isI.gc (isW.i1 (by assumption)) | exact isI.gx (isW.i2 (by assumption)) | exact isI.gc (isW.i2 (by assumption)) | exact isI.gx (isW.i3 (by assumption)) | exact isI.gc (isW.i3 (by assumption)) | exact isI.gx (isW.i4 (by assumption)) | exact isI.gc (isW.i4 (by assumption)) | exact isI.gx (isW.i5 (by assumption)) | exact isI.gc (isW.i5 (by assumption)) | exact isR.gx (by assumption) | exact isRd.gx (by assumption) | exact isSp.gx (by assumption) | exact isI.gx (isR.i (by assumption)) | exact isI.gx (isRd.i (by assumption)) | exact isI.gc (isRd.i (by assumption)) | exact isI.gx (isSp.i (by assumption)) | exact isW.gx (isR.w (by assumption)) | exact isW.gF (isR.w (by assumption)) | exact isK.gx (by assumption) | exact isK.gr (by assumption) | exact isI.gx (isK.row (by assumption) (by omega)) | exact isI.gc (isK.row (by assumption) (by omega)) | fail "no such object") rfl rfl (Nat.le_of_ble_eq_true rfl) (cq_faultNumber _ U_53 hc3 hF1 hF2 hF3 hF4 hF5 (hC3 5) (i := -1) (by decide) (k := 0) (by decide) (by decide)) (fun v_99 h_99 q_99 => ?_)
            obtain ⟨rfl, rfl⟩ := q_99
            refine r_ireturn (pc := 102) .int dX10_would_102 rfl (by first | rfl | assumption) ?_
            first
            | exact Or.inl ⟨fun z => absurd z.1 (by assumption), rfl, rfl⟩
            | exact Or.inl ⟨by omega, rfl, rfl⟩
            | exact Or.inr (Or.inl ⟨⟨by assumption, by omega⟩, by assumption, rfl, rfl⟩)
            | (refine Or.inr (Or.inr ⟨CC, ?_, rfl⟩); ((repeat' split) <;> first | rfl | (exfalso; omega)); done)
            | fail "leaf"
          by_cases e_59_2 : i = 2
          · rw [e_59_2] at ho_59
            obtain rfl : off_59 = 44 := ho_59.symm.trans (by decide)
            obtain rfl : tgt_59 = 103 := by omega
            refine r_aload (pc := 103) dX10_would_103 rfl (by first | rfl | exact isRefV_rf _) ?_
            refine rj_iconst (pc := 105) dX10_would_105 ?_
            refine rj_iconst (pc := 106) dX10_would_106 ?_
            refine r_callV2 (pc := 107) dX10_would_107 qX9_faultThing kX10_215 vX9_faultThing (by first | assumption | exact isI.gx (by assumption) | exact isI.gc (by assumption) | exact isW.gx (by assumption) | exact isW.gF (by assumption) | exact isW.gT (by assumption) (by omega) | exact isW.gS (by assumption) (by omega) | exact isW.gK (by assumption) (by omega) | exact isW.g1 (by assumption) | exact isW.g2 (by assumption) | exact isW.g3 (by assumption) | exact isI.gx (isW.i0 (by assumption)) | exact isI.gc (isW.i0 (by assumption)) | exact isI.gx (isW.i1 (by assumption)) | exact isI.gc (isW.i1 (by assumption)) | exact isI.gx (isW.i2 (by assumption)) | exact isI.gc (isW.i2 (by assumption)) | exact isI.gx (isW.i3 (by assumption)) | exact isI.gc (isW.i3 (by assumption)) | exact isI.gx (isW.i4 (by assumption)) | exact isI.gc (isW.i4 (by assumption)) | exact isI.gx (isW.i5 (by assumption)) | exact isI.gc (isW.i5 (by assumption)) | exact isR.gx (by assumption) | exact isRd.gx (by assumption) | exact isSp.gx (by assumption) | exact isI.gx (isR.i (by assumption)) | exact isI.gx (isRd.i (by assumption)) | exact isI.gc (isRd.i (by assumption)) | exact isI.gx (isSp.i (by assumption)) | exact isW.gx (isR.w (by assumption)) | exact isW.gF (isR.w (by assumption)) | exact isK.gx (by assumption) | exact isK.gr (by assumption) | exact isI.gx (isK.row (by assumption) (by omega)) | exact isI.gc (isK.row (by assumption) (by omega)) | fail "no such object") rfl rfl (Nat.le_of_ble_eq_true rfl) (cq_faultThing _ U_53 hc3 hF1 hF2 hF3 hF4 hF5 (hC3 5) (i := -1) (by decide) (k := 0) (by decide) (by decide)) (fun v_107 h_107 q_107 => ?_)
            obtain ⟨rfl, rfl⟩ := q_107
            refine r_ireturn (pc := 110) .int dX10_would_110 rfl (by first | rfl | assumption) ?_
            first
            | exact Or.inl ⟨fun z => absurd z.1 (by assumption), rfl, rfl⟩
            | exact Or.inl ⟨by omega, rfl, rfl⟩
            | exact Or.inr (Or.inl ⟨⟨by assumption, by omega⟩, by assumption, rfl, rfl⟩)
            | (refine Or.inr (Or.inr ⟨CC, ?_, rfl⟩); ((repeat' split) <;> first | rfl | (exfalso; omega)); done)
            | fail "leaf"
          by_cases e_59_3 : i = 3
          · rw [e_59_3] at ho_59
            obtain rfl : off_59 = 52 := ho_59.symm.trans (by decide)
            obtain rfl : tgt_59 = 111 := by omega
            refine r_aload (pc := 111) dX10_would_111 rfl (by first | rfl | exact isRefV_rf _) ?_
            refine r_getf (pc := 113) dX10_would_113 fX10_218 (by first | assumption | exact isI.gx (by assumption) | exact isI.gc (by assumption) | exact isW.gx (by assumption) | exact isW.gF (by assumption) | exact isW.gT (by assumption) (by omega) | exact isW.gS (by assumption) (by omega) | exact isW.gK (by assumption) (by omega) | exact isW.g1 (by assumption) | exact isW.g2 (by assumption) | exact isW.g3 (by assumption) | exact isI.gx (isW.i0 (by assumption)) | exact isI.gc (isW.i0 (by assumption)) | exact isI.gx (isW.i1 (by assumption)) | exact isI.gc (isW.i1 (by assumption)) | exact isI.gx (isW.i2 (by assumption)) | exact isI.gc (isW.i2 (by assumption)) | exact isI.gx (isW.i3 (by assumption)) | exact isI.gc (isW.i3 (by assumption)) | exact isI.gx (isW.i4 (by assumption)) | exact isI.gc (isW.i4 (by assumption)) | exact isI.gx (isW.i5 (by assumption)) | exact isI.gc (isW.i5 (by assumption)) | exact isR.gx (by assumption) | exact isRd.gx (by assumption) | exact isSp.gx (by assumption) | exact isI.gx (isR.i (by assumption)) | exact isI.gx (isRd.i (by assumption)) | exact isI.gc (isRd.i (by assumption)) | exact isI.gx (isSp.i (by assumption)) | exact isW.gx (isR.w (by assumption)) | exact isW.gF (isR.w (by assumption)) | exact isK.gx (by assumption) | exact isK.gr (by assumption) | exact isI.gx (isK.row (by assumption) (by omega)) | exact isI.gc (isK.row (by assumption) (by omega)) | fail "no such object") (by rfl) ?_
            refine r_getf (pc := 116) dX10_would_116 fX10_55 (by first | assumption | exact isI.gx (by assumption) | exact isI.gc (by assumption) | exact isW.gx (by assumption) | exact isW.gF (by assumption) | exact isW.gT (by assumption) (by omega) | exact isW.gS (by assumption) (by omega) | exact isW.gK (by assumption) (by omega) | exact isW.g1 (by assumption) | exact isW.g2 (by assumption) | exact isW.g3 (by assumption) | exact isI.gx (isW.i0 (by assumption)) | exact isI.gc (isW.i0 (by assumption)) | exact isI.gx (isW.i1 (by assumption)) | exact isI.gc (isW.i1 (by assumption)) | exact isI.gx (isW.i2 (by assumption)) | exact isI.gc (isW.i2 (by assumption)) | exact isI.gx (isW.i3 (by assumption)) | exact isI.gc (isW.i3 (by assumption)) | exact isI.gx (isW.i4 (by assumption)) | exact isI.gc (isW.i4 (by assumption)) | exact isI.gx (isW.i5 (by assumption)) | exact isI.gc (isW.i5 (by assumption)) | exact isR.gx (by assumption) | exact isRd.gx (by assumption) | exact isSp.gx (by assumption) | exact isI.gx (isR.i (by assumption)) | exact isI.gx (isRd.i (by assumption)) | exact isI.gc (isRd.i (by assumption)) | exact isI.gx (isSp.i (by assumption)) | exact isW.gx (isR.w (by assumption)) | exact isW.gF (isR.w (by assumption)) | exact isK.gx (by assumption) | exact isK.gr (by assumption) | exact isI.gx (isK.row (by assumption) (by omega)) | exact isI.gc (isK.row (by assumption) (by omega)) | fail "no such object") (by rfl) ?_
            refine r_aload_n (pc := 119) dX10_would_119 rfl (by first | rfl | exact isRefV_rf _) ?_
            refine r_getf (pc := 120) dX10_would_120 fX10_51 (by first | assumption | exact isI.gx (by assumption) | exact isI.gc (by assumption) | exact isW.gx (by assumption) | exact isW.gF (by assumption) | exact isW.gT (by assumption) (by omega) | exact isW.gS (by assumption) (by omega) | exact isW.gK (by assumption) (by omega) | exact isW.g1 (by assumption) | exact isW.g2 (by assumption) | exact isW.g3 (by assumption) | exact isI.gx (isW.i0 (by assumption)) | exact isI.gc (isW.i0 (by assumption)) | exact isI.gx (isW.i1 (by assumption)) | exact isI.gc (isW.i1 (by assumption)) | exact isI.gx (isW.i2 (by assumption)) | exact isI.gc (isW.i2 (by assumption)) | exact isI.gx (isW.i3 (by assumption)) | exact isI.gc (isW.i3 (by assumption)) | exact isI.gx (isW.i4 (by assumption)) | exact isI.gc (isW.i4 (by assumption)) | exact isI.gx (isW.i5 (by assumption)) | exact isI.gc (isW.i5 (by assumption)) | exact isR.gx (by assumption) | exact isRd.gx (by assumption) | exact isSp.gx (by assumption) | exact isI.gx (isR.i (by assumption)) | exact isI.gx (isRd.i (by assumption)) | exact isI.gc (isRd.i (by assumption)) | exact isI.gx (isSp.i (by assumption)) | exact isW.gx (isR.w (by assumption)) | exact isW.gF (isR.w (by assumption)) | exact isK.gx (by assumption) | exact isK.gr (by assumption) | exact isI.gx (isK.row (by assumption) (by omega)) | exact isI.gc (isK.row (by assumption) (by omega)) | fail "no such object") (by rfl) ?_
            refine r_getf (pc := 123) dX10_would_123 fX10_218 (by first | assumption | exact isI.gx (by assumption) | exact isI.gc (by assumption) | exact isW.gx (by assumption) | exact isW.gF (by assumption) | exact isW.gT (by assumption) (by omega) | exact isW.gS (by assumption) (by omega) | exact isW.gK (by assumption) (by omega) | exact isW.g1 (by assumption) | exact isW.g2 (by assumption) | exact isW.g3 (by assumption) | exact isI.gx (isW.i0 (by assumption)) | exact isI.gc (isW.i0 (by assumption)) | exact isI.gx (isW.i1 (by assumption)) | exact isI.gc (isW.i1 (by assumption)) | exact isI.gx (isW.i2 (by assumption)) | exact isI.gc (isW.i2 (by assumption)) | exact isI.gx (isW.i3 (by assumption)) | exact isI.gc (isW.i3 (by assumption)) | exact isI.gx (isW.i4 (by assumption)) | exact isI.gc (isW.i4 (by assumption)) | exact isI.gx (isW.i5 (by assumption)) | exact isI.gc (isW.i5 (by assumption)) | exact isR.gx (by assumption) | exact isRd.gx (by assumption) | exact isSp.gx (by assumption) | exact isI.gx (isR.i (by assumption)) | exact isI.gx (isRd.i (by assumption)) | exact isI.gc (isRd.i (by assumption)) | exact isI.gx (isSp.i (by assumption)) | exact isW.gx (isR.w (by assumption)) | exact isW.gF (isR.w (by assumption)) | exact isK.gx (by assumption) | exact isK.gr (by assumption) | exact isI.gx (isK.row (by assumption) (by omega)) | exact isI.gc (isK.row (by assumption) (by omega)) | fail "no such object") (by rfl) ?_
            refine r_getf (pc := 126) dX10_would_126 fX10_55 (by first | assumption | exact isI.gx (by assumption) | exact isI.gc (by assumption) | exact isW.gx (by assumption) | exact isW.gF (by assumption) | exact isW.gT (by assumption) (by omega) | exact isW.gS (by assumption) (by omega) | exact isW.gK (by assumption) (by omega) | exact isW.g1 (by assumption) | exact isW.g2 (by assumption) | exact isW.g3 (by assumption) | exact isI.gx (isW.i0 (by assumption)) | exact isI.gc (isW.i0 (by assumption)) | exact isI.gx (isW.i1 (by assumption)) | exact isI.gc (isW.i1 (by assumption)) | exact isI.gx (isW.i2 (by assumption)) | exact isI.gc (isW.i2 (by assumption)) | exact isI.gx (isW.i3 (by assumption)) | exact isI.gc (isW.i3 (by assumption)) | exact isI.gx (isW.i4 (by assumption)) | exact isI.gc (isW.i4 (by assumption)) | exact isI.gx (isW.i5 (by assumption)) | exact isI.gc (isW.i5 (by assumption)) | exact isR.gx (by assumption) | exact isRd.gx (by assumption) | exact isSp.gx (by assumption) | exact isI.gx (isR.i (by assumption)) | exact isI.gx (isRd.i (by assumption)) | exact isI.gc (isRd.i (by assumption)) | exact isI.gx (isSp.i (by assumption)) | exact isW.gx (isR.w (by assumption)) | exact isW.gF (isR.w (by assumption)) | exact isK.gx (by assumption) | exact isK.gr (by assumption) | exact isI.gx (isK.row (by assumption) (by omega)) | exact isI.gc (isK.row (by assumption) (by omega)) | fail "no such object") (by rfl) ?_
            refine rj_isub (pc := 129) dX10_would_129 ?_
            refine r_ireturn (pc := 130) .int dX10_would_130 rfl (by first | rfl | assumption) ?_
            first
            | exact Or.inl ⟨fun z => absurd z.1 (by assumption), rfl, rfl⟩
            | exact Or.inl ⟨by omega, rfl, rfl⟩
            | exact Or.inr (Or.inl ⟨⟨by assumption, by omega⟩, by assumption, rfl, rfl⟩)
            | (refine Or.inr (Or.inr ⟨CC, ?_, rfl⟩); ((repeat' split) <;> first | rfl | (exfalso; omega)); done)
            | fail "leaf"
          by_cases e_59_4 : i = 4
          · rw [e_59_4] at ho_59
            obtain rfl : off_59 = 72 := ho_59.symm.trans (by decide)
            obtain rfl : tgt_59 = 131 := by omega
            refine r_aload (pc := 131) dX10_would_131 rfl (by first | rfl | exact isRefV_rf _) ?_
            refine r_getf (pc := 133) dX10_would_133 fX10_221 (by first | assumption | exact isI.gx (by assumption) | exact isI.gc (by assumption) | exact isW.gx (by assumption) | exact isW.gF (by assumption) | exact isW.gT (by assumption) (by omega) | exact isW.gS (by assumption) (by omega) | exact isW.gK (by assumption) (by omega) | exact isW.g1 (by assumption) | exact isW.g2 (by assumption) | exact isW.g3 (by assumption) | exact isI.gx (isW.i0 (by assumption)) | exact isI.gc (isW.i0 (by assumption)) | exact isI.gx (isW.i1 (by assumption)) | exact isI.gc (isW.i1 (by assumption)) | exact isI.gx (isW.i2 (by assumption)) | exact isI.gc (isW.i2 (by assumption)) | exact isI.gx (isW.i3 (by assumption)) | exact isI.gc (isW.i3 (by assumption)) | exact isI.gx (isW.i4 (by assumption)) | exact isI.gc (isW.i4 (by assumption)) | exact isI.gx (isW.i5 (by assumption)) | exact isI.gc (isW.i5 (by assumption)) | exact isR.gx (by assumption) | exact isRd.gx (by assumption) | exact isSp.gx (by assumption) | exact isI.gx (isR.i (by assumption)) | exact isI.gx (isRd.i (by assumption)) | exact isI.gc (isRd.i (by assumption)) | exact isI.gx (isSp.i (by assumption)) | exact isW.gx (isR.w (by assumption)) | exact isW.gF (isR.w (by assumption)) | exact isK.gx (by assumption) | exact isK.gr (by assumption) | exact isI.gx (isK.row (by assumption) (by omega)) | exact isI.gc (isK.row (by assumption) (by omega)) | fail "no such object") (by rfl) ?_
            refine r_aload_n (pc := 136) dX10_would_136 rfl (by first | rfl | exact isRefV_rf _) ?_
            refine r_getf (pc := 137) dX10_would_137 fX10_51 (by first | assumption | exact isI.gx (by assumption) | exact isI.gc (by assumption) | exact isW.gx (by assumption) | exact isW.gF (by assumption) | exact isW.gT (by assumption) (by omega) | exact isW.gS (by assumption) (by omega) | exact isW.gK (by assumption) (by omega) | exact isW.g1 (by assumption) | exact isW.g2 (by assumption) | exact isW.g3 (by assumption) | exact isI.gx (isW.i0 (by assumption)) | exact isI.gc (isW.i0 (by assumption)) | exact isI.gx (isW.i1 (by assumption)) | exact isI.gc (isW.i1 (by assumption)) | exact isI.gx (isW.i2 (by assumption)) | exact isI.gc (isW.i2 (by assumption)) | exact isI.gx (isW.i3 (by assumption)) | exact isI.gc (isW.i3 (by assumption)) | exact isI.gx (isW.i4 (by assumption)) | exact isI.gc (isW.i4 (by assumption)) | exact isI.gx (isW.i5 (by assumption)) | exact isI.gc (isW.i5 (by assumption)) | exact isR.gx (by assumption) | exact isRd.gx (by assumption) | exact isSp.gx (by assumption) | exact isI.gx (isR.i (by assumption)) | exact isI.gx (isRd.i (by assumption)) | exact isI.gc (isRd.i (by assumption)) | exact isI.gx (isSp.i (by assumption)) | exact isW.gx (isR.w (by assumption)) | exact isW.gF (isR.w (by assumption)) | exact isK.gx (by assumption) | exact isK.gr (by assumption) | exact isI.gx (isK.row (by assumption) (by omega)) | exact isI.gc (isK.row (by assumption) (by omega)) | fail "no such object") (by rfl) ?_
            refine r_getf (pc := 140) dX10_would_140 fX10_221 (by first | assumption | exact isI.gx (by assumption) | exact isI.gc (by assumption) | exact isW.gx (by assumption) | exact isW.gF (by assumption) | exact isW.gT (by assumption) (by omega) | exact isW.gS (by assumption) (by omega) | exact isW.gK (by assumption) (by omega) | exact isW.g1 (by assumption) | exact isW.g2 (by assumption) | exact isW.g3 (by assumption) | exact isI.gx (isW.i0 (by assumption)) | exact isI.gc (isW.i0 (by assumption)) | exact isI.gx (isW.i1 (by assumption)) | exact isI.gc (isW.i1 (by assumption)) | exact isI.gx (isW.i2 (by assumption)) | exact isI.gc (isW.i2 (by assumption)) | exact isI.gx (isW.i3 (by assumption)) | exact isI.gc (isW.i3 (by assumption)) | exact isI.gx (isW.i4 (by assumption)) | exact isI.gc (isW.i4 (by assumption)) | exact isI.gx (isW.i5 (by assumption)) | exact isI.gc (isW.i5 (by assumption)) | exact isR.gx (by assumption) | exact isRd.gx (by assumption) | exact isSp.gx (by assumption) | exact isI.gx (isR.i (by assumption)) | exact isI.gx (isRd.i (by assumption)) | exact isI.gc (isRd.i (by assumption)) | exact isI.gx (isSp.i (by assumption)) | exact isW.gx (isR.w (by assumption)) | exact isW.gF (isR.w (by assumption)) | exact isK.gx (by assumption) | exact isK.gr (by assumption) | exact isI.gx (isK.row (by assumption) (by omega)) | exact isI.gc (isK.row (by assumption) (by omega)) | fail "no such object") (by rfl) ?_
            refine rj_isub (pc := 143) dX10_would_143 ?_
            refine r_ireturn (pc := 144) .int dX10_would_144 rfl (by first | rfl | assumption) ?_
            first
            | exact Or.inl ⟨fun z => absurd z.1 (by assumption), rfl, rfl⟩
            | exact Or.inl ⟨by omega, rfl, rfl⟩
            | exact Or.inr (Or.inl ⟨⟨by assumption, by omega⟩, by assumption, rfl, rfl⟩)
            | (refine Or.inr (Or.inr ⟨CC, ?_, rfl⟩); ((repeat' split) <;> first | rfl | (exfalso; omega)); done)
            | fail "leaf"
          have eo_59 : off_59 = 86 := by
            rw [← ho_59]
            unfold tswOff
            rw [if_pos (by omega)]
          obtain rfl : tgt_59 = 145 := by omega
          refine r_aload (pc := 145) dX10_would_145 rfl (by first | rfl | exact isRefV_rf _) ?_
          refine rj_iconst (pc := 147) dX10_would_147 ?_
          refine r_callV1 (pc := 148) dX10_would_148 qX9_heldWithin kX10_158 vX9_heldWithin (by first | assumption | exact isI.gx (by assumption) | exact isI.gc (by assumption) | exact isW.gx (by assumption) | exact isW.gF (by assumption) | exact isW.gT (by assumption) (by omega) | exact isW.gS (by assumption) (by omega) | exact isW.gK (by assumption) (by omega) | exact isW.g1 (by assumption) | exact isW.g2 (by assumption) | exact isW.g3 (by assumption) | exact isI.gx (isW.i0 (by assumption)) | exact isI.gc (isW.i0 (by assumption)) | exact isI.gx (isW.i1 (by assumption)) | exact isI.gc (isW.i1 (by assumption)) | exact isI.gx (isW.i2 (by assumption)) | exact isI.gc (isW.i2 (by assumption)) | exact isI.gx (isW.i3 (by assumption)) | exact isI.gc (isW.i3 (by assumption)) | exact isI.gx (isW.i4 (by assumption)) | exact isI.gc (isW.i4 (by assumption)) | exact isI.gx (isW.i5 (by assumption)) | exact isI.gc (isW.i5 (by assumption)) | exact isR.gx (by assumption) | exact isRd.gx (by assumption) | exact isSp.gx (by assumption) | exact isI.gx (isR.i (by assumption)) | exact isI.gx (isRd.i (by assumption)) | exact isI.gc (isRd.i (by assumption)) | exact isI.gx (isSp.i (by assumption)) | exact isW.gx (isR.w (by assumption)) | exact isW.gF (isR.w (by assumption)) | exact isK.gx (by assumption) | exact isK.gr (by assumption) | exact isI.gx (isK.row (by assumption) (by omega)) | exact isI.gc (isK.row (by assumption) (by omega)) | fail "no such object") rfl rfl (Nat.le_of_ble_eq_true rfl) (cq_heldWithin _ U_53 hc3 (hO3 CC) hN3 hcap (i := 0) (by decide)) (fun v_148 h_148 q_148 => ?_)
          obtain ⟨rfl, rfl⟩ := q_148
          refine r_ireturn (pc := 151) .int dX10_would_151 rfl (by first | rfl | assumption) ?_
          first
          | exact Or.inl ⟨fun z => absurd z.1 (by assumption), rfl, rfl⟩
          | exact Or.inl ⟨by omega, rfl, rfl⟩
          | exact Or.inr (Or.inl ⟨⟨by assumption, by omega⟩, by assumption, rfl, rfl⟩)
          | (refine Or.inr (Or.inr ⟨CC, ?_, rfl⟩); ((repeat' split) <;> first | rfl | (exfalso; omega)); done)
          | fail "leaf"
        · try simp only [b01_0, bz_0, Classical.not_not] at c_28
          refine rj_bipush (pc := 31) dX10_would_31 (by decide +kernel) ?_
          refine r_ireturn (pc := 33) .int dX10_would_33 rfl (by first | rfl | assumption) ?_
          first
          | exact Or.inl ⟨fun z => absurd z.1 (by assumption), rfl, rfl⟩
          | exact Or.inl ⟨by omega, rfl, rfl⟩
          | exact Or.inr (Or.inl ⟨⟨by assumption, by omega⟩, by assumption, rfl, rfl⟩)
          | (refine Or.inr (Or.inr ⟨CC, ?_, rfl⟩); ((repeat' split) <;> first | rfl | (exfalso; omega)); done)
          | fail "leaf"
      · refine rj_iconst (pc := 22) dX10_would_22 ?_
        refine r_ireturn (pc := 23) .int dX10_would_23 rfl (by first | rfl | assumption) ?_
        first
        | exact Or.inl ⟨fun z => absurd z.1 (by assumption), rfl, rfl⟩
        | exact Or.inl ⟨by omega, rfl, rfl⟩
        | exact Or.inr (Or.inl ⟨⟨by assumption, by omega⟩, by assumption, rfl, rfl⟩)
        | (refine Or.inr (Or.inr ⟨CC, ?_, rfl⟩); ((repeat' split) <;> first | rfl | (exfalso; omega)); done)
        | fail "leaf"
  · obtain rfl := scAt_N e_5 q1_5
    refine r_astore_n (pc := 8) dX10_would_8 (Nat.le_of_ble_eq_true rfl) (by first | rfl | exact isRefV_rf _) ?_
    dsimp only [lsSt, List.set, mLs, mEnt]
    refine r_aload_n (pc := 9) dX10_would_9 rfl (by first | rfl | exact isRefV_rf _) ?_
    refine r_ifnull (pc := 10) (tgt := 22) dX10_would_10 (by decide) (by first | rfl | exact isRefV_rf _) (fun c_10 => ?_) (fun a_10 c_10 => by cases c_10)
    refine rj_iconst (pc := 22) dX10_would_22 ?_
    refine r_ireturn (pc := 23) .int dX10_would_23 rfl (by first | rfl | assumption) ?_
    first
    | exact Or.inl ⟨fun z => absurd z.1 (by assumption), rfl, rfl⟩
    | exact Or.inl ⟨by omega, rfl, rfl⟩
    | exact Or.inr (Or.inl ⟨⟨by assumption, by omega⟩, by assumption, rfl, rfl⟩)
    | (refine Or.inr (Or.inr ⟨CC, ?_, rfl⟩); ((repeat' split) <;> first | rfl | (exfalso; omega)); done)
    | fail "leaf"
set_option maxHeartbeats 4000000 in
set_option maxRecDepth 100000 in
theorem kg_trial {G : mG} {l : Launch} (d : Nat) {h : mH} {x : Nat} {kp tk : Option Nat} {zr : Nat → Int} {fr : Nat → Nat → Int} {p e o zt : Int} {ft : Nat → Int} {zs : Int} {fs : Nat → Int} {b za : Int} {fa : Nat → Int} {c : Nat → Int} {C : Nat → Nat → Int} {nm : Nat → Int64} {g : Nat → Option Nat} (hK : isK h x kp tk zr fr p e o zt ft zs fs b za fa c C nm g) (hc : ∀ q, InR (c q)) (hC : ∀ k q, InR (C k q)) {a : Int} (ha : InR a) {i : Int} (hi : InR i) {u : Int} (hu : InR u) {h1 h2 : mH} {r2 : Nat} {b2 z2 : Int} {f2 : Nat → Int} {c2 : Nat → Int} {C2 : Nat → Nat → Int} {nm2 : Nat → Int64} {g2 : Nat → Option Nat} {b3 z3 : Int} {f3 : Nat → Int} {c3 : Nat → Int} {C3 : Nat → Nat → Int} {nm3 : Nat → Int64} {g3 : Nat → Option Nat} {n1 : Int} (hn1 : InR n1) (T : ((inW c 2 10 a ∧ (0 ≤ u ∧ u ≤ 5)) ∧ (0 ≤ i ∧ i ≤ 100)) → RUNM G l (d + 14) mX10_thinkerOfNow [.ref x] h (fun v h' => v = some (.ref r2) ∧ h' = h1)) (hR2 : ((inW c 2 10 a ∧ (0 ≤ u ∧ u ≤ 5)) ∧ (0 ≤ i ∧ i ≤ 100)) → isR h1 r2 b2 z2 f2 c2 C2 nm2 g2) (E : ((inW c 2 10 a ∧ (0 ≤ u ∧ u ≤ 5)) ∧ (0 ≤ i ∧ i ≤ 100)) → RUNM G l (d + 14) mX3_tickUpTo [.ref r2, .int (J (i))] h1 (fun v h' => v = some (.int (J n1)) ∧ h' = h2)) (hR3 : ((inW c 2 10 a ∧ (0 ≤ u ∧ u ≤ 5)) ∧ (0 ≤ i ∧ i ≤ 100)) → isR h2 r2 b3 z3 f3 c3 C3 nm3 g3) (hK3 : ((inW c 2 10 a ∧ (0 ≤ u ∧ u ≤ 5)) ∧ (0 ≤ i ∧ i ≤ 100)) → isK h2 x kp (some r2) zr fr p e o zt ft zs fs b za fa c C nm g) (hc3 : ∀ q, InR (c3 q)) (hC3 : ∀ k q, InR (C3 k q)) (hO3 : ((inW c 2 10 a ∧ (0 ≤ u ∧ u ≤ 5)) ∧ (0 ≤ i ∧ i ≤ 100)) → oOk c3) {N : Nat} (hN : ((inW c 2 10 a ∧ (0 ≤ u ∧ u ≤ 5)) ∧ (0 ≤ i ∧ i ≤ 100)) → c3 0 = (N : Int) ∧ N ≤ 90) {F : Nat} (hF : ((inW c 2 10 a ∧ (0 ≤ u ∧ u ≤ 5)) ∧ (0 ≤ i ∧ i ≤ 100)) → (c3 11 = (F : Int) ∧ c3 12 = (F : Int) ∧ c3 13 = (F : Int)) ∧ F ≤ 90 ∧ (0 ≤ c3 4 ∧ c3 4 ≤ (F : Int))) : RUNM G l (d + 15) mX10_trial [.ref x, .int (J a), .int (J i), .int (J u)] h (fun v h' => (¬ (inW c 2 10 a ∧ (0 ≤ u ∧ u ≤ 5)) ∧ v = some (.int (J (-1))) ∧ h' = h) ∨ ((inW c 2 10 a ∧ (0 ≤ u ∧ u ≤ 5)) ∧ ¬ (0 ≤ i ∧ i ≤ 100) ∧ v = some (.int (J (-2))) ∧ h' = h) ∨ (((inW c 2 10 a ∧ (0 ≤ u ∧ u ≤ 5)) ∧ (0 ≤ i ∧ i ≤ 100)) ∧ v = some (.int (J (if u = 0 then fcF c3 (C3 5) F a else if u = 1 then fnF c3 (C3 5) (C3 3) F a 0 else if u = 2 then fgF c3 (C3 5) (C3 4) F a 0 else if u = 3 then (if inW c3 2 10 a then c3 (489 + 9 * a.toNat) else -1) else if u = 4 then (if inW c3 2 10 a then c3 (491 + 9 * a.toNat) else -1) else c3 9))) ∧ h' = h2)) := by
  refine RUNM.of (by decide +kernel) (Nat.le_of_ble_eq_true rfl) ?_
  have hD := hK.d
  have hS := hK.s
  have hR := hK.r
  have hW := hK.w
  refine r_aload_n (pc := 0) dX10_trial_0 rfl (by first | rfl | exact isRefV_rf _) ?_
  refine r_getf (pc := 1) dX10_trial_1 fX10_51 (by first | assumption | exact isI.gx (by assumption) | exact isI.gc (by assumption) | exact isW.gx (by assumption) | exact isW.gF (by assumption) | exact isW.gT (by assumption) (by omega) | exact isW.gS (by assumption) (by omega) | exact isW.gK (by assumption) (by omega) | exact isW.g1 (by assumption) | exact isW.g2 (by assumption) | exact isW.g3 (by assumption) | exact isI.gx (isW.i0 (by assumption)) | exact isI.gc (isW.i0 (by assumption)) | exact isI.gx (isW.i1 (by assumption)) | exact isI.gc (isW.i1 (by assumption)) | exact isI.gx (isW.i2 (by assumption)) | exact isI.gc (isW.i2 (by assumption)) | exact isI.gx (isW.i3 (by assumption)) | exact isI.gc (isW.i3 (by assumption)) | exact isI.gx (isW.i4 (by assumption)) | exact isI.gc (isW.i4 (by assumption)) | exact isI.gx (isW.i5 (by assumption)) | exact isI.gc (isW.i5 (by assumption)) | exact isR.gx (by assumption) | exact isRd.gx (by assumption) | exact isSp.gx (by assumption) | exact isI.gx (isR.i (by assumption)) | exact isI.gx (isRd.i (by assumption)) | exact isI.gc (isRd.i (by assumption)) | exact isI.gx (isSp.i (by assumption)) | exact isW.gx (isR.w (by assumption)) | exact isW.gF (isR.w (by assumption)) | exact isK.gx (by assumption) | exact isK.gr (by assumption) | exact isI.gx (isK.row (by assumption) (by omega)) | exact isI.gc (isK.row (by assumption) (by omega)) | fail "no such object") (by rfl) ?_
  refine r_iload_n (pc := 4) dX10_trial_4 rfl ?_
  refine r_callV1 (pc := 5) dX10_trial_5 qX9_taskAt kX10_79 vX9_taskAt (by first | assumption | exact isI.gx (by assumption) | exact isI.gc (by assumption) | exact isW.gx (by assumption) | exact isW.gF (by assumption) | exact isW.gT (by assumption) (by omega) | exact isW.gS (by assumption) (by omega) | exact isW.gK (by assumption) (by omega) | exact isW.g1 (by assumption) | exact isW.g2 (by assumption) | exact isW.g3 (by assumption) | exact isI.gx (isW.i0 (by assumption)) | exact isI.gc (isW.i0 (by assumption)) | exact isI.gx (isW.i1 (by assumption)) | exact isI.gc (isW.i1 (by assumption)) | exact isI.gx (isW.i2 (by assumption)) | exact isI.gc (isW.i2 (by assumption)) | exact isI.gx (isW.i3 (by assumption)) | exact isI.gc (isW.i3 (by assumption)) | exact isI.gx (isW.i4 (by assumption)) | exact isI.gc (isW.i4 (by assumption)) | exact isI.gx (isW.i5 (by assumption)) | exact isI.gc (isW.i5 (by assumption)) | exact isR.gx (by assumption) | exact isRd.gx (by assumption) | exact isSp.gx (by assumption) | exact isI.gx (isR.i (by assumption)) | exact isI.gx (isRd.i (by assumption)) | exact isI.gc (isRd.i (by assumption)) | exact isI.gx (isSp.i (by assumption)) | exact isW.gx (isR.w (by assumption)) | exact isW.gF (isR.w (by assumption)) | exact isK.gx (by assumption) | exact isK.gr (by assumption) | exact isI.gx (isK.row (by assumption) (by omega)) | exact isI.gc (isK.row (by assumption) (by omega)) | fail "no such object") rfl rfl (Nat.le_of_ble_eq_true rfl) (cw_taskAt _ hW hc ha) (fun v_5 h_5 q_5 => ?_)
  obtain ⟨q1_5, rfl⟩ := q_5
  by_cases e_5 : inW c 2 10 a
  · obtain rfl := tkAt_P e_5 q1_5
    refine r_ifnull (pc := 8) (tgt := 20) dX10_trial_8 (by decide) (by first | rfl | exact isRefV_rf _) (fun c_8 => by cases c_8) (fun a_8 c_8 => ?_)
    refine r_iload_n (pc := 11) dX10_trial_11 rfl ?_
    refine rj_if_lt (pc := 12) (tgt := 20) dX10_trial_12 (by decide) (by first | exact b01_r | exact bz_r | omega | (constructor <;> omega) | apply_assumption | (apply atF_r; assumption) | fail "no range") (fun c_12 => ?_) (fun c_12 => ?_)
    · refine rj_iconst (pc := 20) dX10_trial_20 ?_
      refine r_ireturn (pc := 21) .int dX10_trial_21 rfl (by first | rfl | assumption) ?_
      first
      | exact Or.inl ⟨fun z => absurd z.1 (by assumption), rfl, rfl⟩
      | exact Or.inl ⟨by omega, rfl, rfl⟩
      | exact Or.inr (Or.inl ⟨⟨by assumption, by omega⟩, by omega, rfl, rfl⟩)
      | (refine Or.inr (Or.inr ⟨CC, ?_, rfl⟩); ((repeat' split) <;> first | rfl | (exfalso; omega) | (exfalso; apply absurd ‹inW c3 2 10 a›; assumption)); done)
      | fail "leaf"
    · refine r_iload_n (pc := 15) dX10_trial_15 rfl ?_
      refine rj_iconst (pc := 16) dX10_trial_16 ?_
      refine rj_icmp_le (pc := 17) (tgt := 22) dX10_trial_17 (by decide) (by first | exact b01_r | exact bz_r | omega | (constructor <;> omega) | apply_assumption | (apply atF_r; assumption) | fail "no range") (by first | exact b01_r | exact bz_r | omega | (constructor <;> omega) | apply_assumption | (apply atF_r; assumption) | fail "no range") (fun c_17 => ?_) (fun c_17 => ?_)
      · refine r_iload_n (pc := 22) dX10_trial_22 rfl ?_
        refine rj_if_lt (pc := 23) (tgt := 32) dX10_trial_23 (by decide) (by first | exact b01_r | exact bz_r | omega | (constructor <;> omega) | apply_assumption | (apply atF_r; assumption) | fail "no range") (fun c_23 => ?_) (fun c_23 => ?_)
        · refine rj_bipush (pc := 32) dX10_trial_32 (by decide +kernel) ?_
          refine r_ireturn (pc := 34) .int dX10_trial_34 rfl (by first | rfl | assumption) ?_
          first
          | exact Or.inl ⟨fun z => absurd z.1 (by assumption), rfl, rfl⟩
          | exact Or.inl ⟨by omega, rfl, rfl⟩
          | exact Or.inr (Or.inl ⟨⟨by assumption, by omega⟩, by omega, rfl, rfl⟩)
          | (refine Or.inr (Or.inr ⟨CC, ?_, rfl⟩); ((repeat' split) <;> first | rfl | (exfalso; omega) | (exfalso; apply absurd ‹inW c3 2 10 a›; assumption)); done)
          | fail "leaf"
        · refine r_iload_n (pc := 26) dX10_trial_26 rfl ?_
          refine rj_bipush (pc := 27) dX10_trial_27 (by decide +kernel) ?_
          refine rj_icmp_le (pc := 29) (tgt := 35) dX10_trial_29 (by decide) (by first | exact b01_r | exact bz_r | omega | (constructor <;> omega) | apply_assumption | (apply atF_r; assumption) | fail "no range") (by first | exact b01_r | exact bz_r | omega | (constructor <;> omega) | apply_assumption | (apply atF_r; assumption) | fail "no range") (fun c_29 => ?_) (fun c_29 => ?_)
          · have CC : ((inW c 2 10 a ∧ (0 ≤ u ∧ u ≤ 5)) ∧ (0 ≤ i ∧ i ≤ 100)) := ⟨⟨e_5, by omega⟩, by omega⟩
            refine r_aload_n (pc := 35) dX10_trial_35 rfl (by first | rfl | exact isRefV_rf _) ?_
            refine r_callV0 (pc := 36) dX10_trial_36 qX10_thinkerOfNow kX10_208 vX10_thinkerOfNow (by first | assumption | exact isI.gx (by assumption) | exact isI.gc (by assumption) | exact isW.gx (by assumption) | exact isW.gF (by assumption) | exact isW.gT (by assumption) (by omega) | exact isW.gS (by assumption) (by omega) | exact isW.gK (by assumption) (by omega) | exact isW.g1 (by assumption) | exact isW.g2 (by assumption) | exact isW.g3 (by assumption) | exact isI.gx (isW.i0 (by assumption)) | exact isI.gc (isW.i0 (by assumption)) | exact isI.gx (isW.i1 (by assumption)) | exact isI.gc (isW.i1 (by assumption)) | exact isI.gx (isW.i2 (by assumption)) | exact isI.gc (isW.i2 (by assumption)) | exact isI.gx (isW.i3 (by assumption)) | exact isI.gc (isW.i3 (by assumption)) | exact isI.gx (isW.i4 (by assumption)) | exact isI.gc (isW.i4 (by assumption)) | exact isI.gx (isW.i5 (by assumption)) | exact isI.gc (isW.i5 (by assumption)) | exact isR.gx (by assumption) | exact isRd.gx (by assumption) | exact isSp.gx (by assumption) | exact isI.gx (isR.i (by assumption)) | exact isI.gx (isRd.i (by assumption)) | exact isI.gc (isRd.i (by assumption)) | exact isI.gx (isSp.i (by assumption)) | exact isW.gx (isR.w (by assumption)) | exact isW.gF (isR.w (by assumption)) | exact isK.gx (by assumption) | exact isK.gr (by assumption) | exact isI.gx (isK.row (by assumption) (by omega)) | exact isI.gc (isK.row (by assumption) (by omega)) | fail "no such object") rfl rfl (Nat.le_of_ble_eq_true rfl) (T CC) (fun v_36 h_36 q_36 => ?_)
            obtain ⟨rfl, e_360⟩ := q_36
            subst e_360
            have R_36 := hR2 CC
            have gr_36 := R_36.gx
            refine r_astore (pc := 39) dX10_trial_39 (Nat.le_of_ble_eq_true rfl) (by first | rfl | exact isRefV_rf _) ?_
            dsimp only [lsSt, List.set, mLs, mEnt]
            refine r_aload (pc := 41) dX10_trial_41 rfl (by first | rfl | exact isRefV_rf _) ?_
            refine r_getf (pc := 43) dX10_trial_43 fX10_47 (by first | assumption | exact isI.gx (by assumption) | exact isI.gc (by assumption) | exact isW.gx (by assumption) | exact isW.gF (by assumption) | exact isW.gT (by assumption) (by omega) | exact isW.gS (by assumption) (by omega) | exact isW.gK (by assumption) (by omega) | exact isW.g1 (by assumption) | exact isW.g2 (by assumption) | exact isW.g3 (by assumption) | exact isI.gx (isW.i0 (by assumption)) | exact isI.gc (isW.i0 (by assumption)) | exact isI.gx (isW.i1 (by assumption)) | exact isI.gc (isW.i1 (by assumption)) | exact isI.gx (isW.i2 (by assumption)) | exact isI.gc (isW.i2 (by assumption)) | exact isI.gx (isW.i3 (by assumption)) | exact isI.gc (isW.i3 (by assumption)) | exact isI.gx (isW.i4 (by assumption)) | exact isI.gc (isW.i4 (by assumption)) | exact isI.gx (isW.i5 (by assumption)) | exact isI.gc (isW.i5 (by assumption)) | exact isR.gx (by assumption) | exact isRd.gx (by assumption) | exact isSp.gx (by assumption) | exact isI.gx (isR.i (by assumption)) | exact isI.gx (isRd.i (by assumption)) | exact isI.gc (isRd.i (by assumption)) | exact isI.gx (isSp.i (by assumption)) | exact isW.gx (isR.w (by assumption)) | exact isW.gF (isR.w (by assumption)) | exact isK.gx (by assumption) | exact isK.gr (by assumption) | exact isI.gx (isK.row (by assumption) (by omega)) | exact isI.gc (isK.row (by assumption) (by omega)) | fail "no such object") (by rfl) ?_
            refine r_astore (pc := 46) dX10_trial_46 (Nat.le_of_ble_eq_true rfl) (by first | rfl | exact isRefV_rf _) ?_
            dsimp only [lsSt, List.set, mLs, mEnt]
            refine r_aload (pc := 48) dX10_trial_48 rfl (by first | rfl | exact isRefV_rf _) ?_
            refine r_iload_n (pc := 50) dX10_trial_50 rfl ?_
            refine r_callV1 (pc := 51) dX10_trial_51 qX3_tickUpTo kX10_224 vX3_tickUpTo (by first | assumption | exact isI.gx (by assumption) | exact isI.gc (by assumption) | exact isW.gx (by assumption) | exact isW.gF (by assumption) | exact isW.gT (by assumption) (by omega) | exact isW.gS (by assumption) (by omega) | exact isW.gK (by assumption) (by omega) | exact isW.g1 (by assumption) | exact isW.g2 (by assumption) | exact isW.g3 (by assumption) | exact isI.gx (isW.i0 (by assumption)) | exact isI.gc (isW.i0 (by assumption)) | exact isI.gx (isW.i1 (by assumption)) | exact isI.gc (isW.i1 (by assumption)) | exact isI.gx (isW.i2 (by assumption)) | exact isI.gc (isW.i2 (by assumption)) | exact isI.gx (isW.i3 (by assumption)) | exact isI.gc (isW.i3 (by assumption)) | exact isI.gx (isW.i4 (by assumption)) | exact isI.gc (isW.i4 (by assumption)) | exact isI.gx (isW.i5 (by assumption)) | exact isI.gc (isW.i5 (by assumption)) | exact isR.gx (by assumption) | exact isRd.gx (by assumption) | exact isSp.gx (by assumption) | exact isI.gx (isR.i (by assumption)) | exact isI.gx (isRd.i (by assumption)) | exact isI.gc (isRd.i (by assumption)) | exact isI.gx (isSp.i (by assumption)) | exact isW.gx (isR.w (by assumption)) | exact isW.gF (isR.w (by assumption)) | exact isK.gx (by assumption) | exact isK.gr (by assumption) | exact isI.gx (isK.row (by assumption) (by omega)) | exact isI.gc (isK.row (by assumption) (by omega)) | fail "no such object") rfl rfl (Nat.le_of_ble_eq_true rfl) (E CC) (fun v_51 h_51 q_51 => ?_)
            obtain ⟨rfl, e_510⟩ := q_51
            subst e_510
            have R_51 := hR3 CC
            have U_51 := R_51.w
            have gu_51 := U_51.gx
            have K_51 := hK3 CC
            have gx_51 := K_51.gx
            have V_51 := K_51.w
            have gv_51 := V_51.gx
            have hN3 := (hN CC).1
            have hcap := (hN CC).2
            have hF1 := (hF CC).1.1
            have hF2 := (hF CC).1.2.1
            have hF3 := (hF CC).1.2.2
            have hF4 := (hF CC).2.1
            have hF5 := (hF CC).2.2
            refine r_pop (pc := 54) dX10_trial_54 (by first | rfl | (cases ‹Option Nat› <;> rfl)) ?_
            refine r_aload (pc := 55) dX10_trial_55 rfl (by first | rfl | exact isRefV_rf _) ?_
            refine r_iload_n (pc := 57) dX10_trial_57 rfl ?_
            refine r_callV1 (pc := 58) dX10_trial_58 qX9_taskAt kX10_79 vX9_taskAt (by first | assumption | exact isI.gx (by assumption) | exact isI.gc (by assumption) | exact isW.gx (by assumption) | exact isW.gF (by assumption) | exact isW.gT (by assumption) (by omega) | exact isW.gS (by assumption) (by omega) | exact isW.gK (by assumption) (by omega) | exact isW.g1 (by assumption) | exact isW.g2 (by assumption) | exact isW.g3 (by assumption) | exact isI.gx (isW.i0 (by assumption)) | exact isI.gc (isW.i0 (by assumption)) | exact isI.gx (isW.i1 (by assumption)) | exact isI.gc (isW.i1 (by assumption)) | exact isI.gx (isW.i2 (by assumption)) | exact isI.gc (isW.i2 (by assumption)) | exact isI.gx (isW.i3 (by assumption)) | exact isI.gc (isW.i3 (by assumption)) | exact isI.gx (isW.i4 (by assumption)) | exact isI.gc (isW.i4 (by assumption)) | exact isI.gx (isW.i5 (by assumption)) | exact isI.gc (isW.i5 (by assumption)) | exact isR.gx (by assumption) | exact isRd.gx (by assumption) | exact isSp.gx (by assumption) | exact isI.gx (isR.i (by assumption)) | exact isI.gx (isRd.i (by assumption)) | exact isI.gc (isRd.i (by assumption)) | exact isI.gx (isSp.i (by assumption)) | exact isW.gx (isR.w (by assumption)) | exact isW.gF (isR.w (by assumption)) | exact isK.gx (by assumption) | exact isK.gr (by assumption) | exact isI.gx (isK.row (by assumption) (by omega)) | exact isI.gc (isK.row (by assumption) (by omega)) | fail "no such object") rfl rfl (Nat.le_of_ble_eq_true rfl) (cw_taskAt _ U_51 hc3 ha) (fun v_58 h_58 q_58 => ?_)
            obtain ⟨q1_58, rfl⟩ := q_58
            by_cases e_58 : inW c3 2 10 a
            · obtain rfl := tkAt_P e_58 q1_58
              refine r_astore (pc := 61) dX10_trial_61 (Nat.le_of_ble_eq_true rfl) (by first | rfl | exact isRefV_rf _) ?_
              dsimp only [lsSt, List.set, mLs, mEnt]
              refine r_iload_n (pc := 63) dX10_trial_63 rfl ?_
              refine rj_tsw (pc := 64) dX10_trial_64 (by first | exact b01_r | exact bz_r | omega | (constructor <;> omega) | apply_assumption | (apply atF_r; assumption) | fail "no range") (by decide) (by decide) (by decide) (fun off_64 tgt_64 ho_64 ht_64 => ?_)
              by_cases e_64_0 : u = 0
              · rw [e_64_0] at ho_64
                obtain rfl : off_64 = 36 := ho_64.symm.trans (by decide)
                obtain rfl : tgt_64 = 100 := by omega
                refine r_aload (pc := 100) dX10_trial_100 rfl (by first | rfl | exact isRefV_rf _) ?_
                refine r_iload_n (pc := 102) dX10_trial_102 rfl ?_
                refine r_callV1 (pc := 103) dX10_trial_103 qX9_faultCount kX10_227 vX9_faultCount (by first | assumption | exact isI.gx (by assumption) | exact isI.gc (by assumption) | exact isW.gx (by assumption) | exact isW.gF (by assumption) | exact isW.gT (by assumption) (by omega) | exact isW.gS (by assumption) (by omega) | exact isW.gK (by assumption) (by omega) | exact isW.g1 (by assumption) | exact isW.g2 (by assumption) | exact isW.g3 (by assumption) | exact isI.gx (isW.i0 (by assumption)) | exact isI.gc (isW.i0 (by assumption)) | exact isI.gx (isW.i1 (by assumption)) | exact isI.gc (isW.i1 (by assumption)) | exact isI.gx (isW.i2 (by assumption)) | exact isI.gc (isW.i2 (by assumption)) | exact isI.gx (isW.i3 (by assumption)) | exact isI.gc (isW.i3 (by assumption)) | exact isI.gx (isW.i4 (by assumption)) | exact isI.gc (isW.i4 (by assumption)) | exact isI.gx (isW.i5 (by assumption)) | exact isI.gc (isW.i5 (by assumption)) | exact isR.gx (by assumption) | exact isRd.gx (by assumption) | exact isSp.gx (by assumption) | exact isI.gx (isR.i (by assumption)) | exact isI.gx (isRd.i (by assumption)) | exact isI.gc (isRd.i (by assumption)) | exact isI.gx (isSp.i (by assumption)) | exact isW.gx (isR.w (by assumption)) | exact isW.gF (isR.w (by assumption)) | exact isK.gx (by assumption) | exact isK.gr (by assumption) | exact isI.gx (isK.row (by assumption) (by omega)) | exact isI.gc (isK.row (by assumption) (by omega)) | fail "no such object") rfl rfl (Nat.le_of_ble_eq_true rfl) (cq_faultCount _ U_51 hc3 hF1 hF2 hF3 hF4 hF5 (hC3 5) ha) (fun v_103 h_103 q_103 => ?_)
                obtain ⟨rfl, rfl⟩ := q_103
                refine r_ireturn (pc := 106) .int dX10_trial_106 rfl (by first | rfl | assumption) ?_
                first
                | exact Or.inl ⟨fun z => absurd z.1 (by assumption), rfl, rfl⟩
                | exact Or.inl ⟨by omega, rfl, rfl⟩
                | exact Or.inr (Or.inl ⟨⟨by assumption, by omega⟩, by omega, rfl, rfl⟩)
                | (refine Or.inr (Or.inr ⟨CC, ?_, rfl⟩); ((repeat' split) <;> first | rfl | (exfalso; omega) | (exfalso; apply absurd ‹inW c3 2 10 a›; assumption)); done)
                | fail "leaf"
              by_cases e_64_1 : u = 1
              · rw [e_64_1] at ho_64
                obtain rfl : off_64 = 43 := ho_64.symm.trans (by decide)
                obtain rfl : tgt_64 = 107 := by omega
                refine r_aload (pc := 107) dX10_trial_107 rfl (by first | rfl | exact isRefV_rf _) ?_
                refine r_iload_n (pc := 109) dX10_trial_109 rfl ?_
                refine rj_iconst (pc := 110) dX10_trial_110 ?_
                refine r_callV2 (pc := 111) dX10_trial_111 qX9_faultNumber kX10_212 vX9_faultNumber (by first | assumption | exact isI.gx (by assumption) | exact isI.gc (by assumption) | exact isW.gx (by assumption) | exact isW.gF (by assumption) | exact isW.gT (by assumption) (by omega) | exact isW.gS (by assumption) (by omega) | exact isW.gK (by assumption) (by omega) | exact isW.g1 (by assumption) | exact isW.g2 (by assumption) | exact isW.g3 (by assumption) | exact isI.gx (isW.i0 (by assumption)) | exact isI.gc (isW.i0 (by assumption)) | exact isI.gx (isW.i1 (by assumption)) | exact isI.gc (isW.i1 (by assumption)) | exact isI.gx (isW.i2 (by assumption)) | exact isI.gc (isW.i2 (by assumption)) | exact isI.gx (isW.i3 (by assumption)) | exact isI.gc (isW.i3 (by assumption)) | exact isI.gx (isW.i4 (by assumption)) | exact isI.gc (isW.i4 (by assumption)) | exact isI.gx (isW.i5 (by assumption)) | exact isI.gc (isW.i5 (by assumption)) | exact isR.gx (by assumption) | exact isRd.gx (by assumption) | exact isSp.gx (by assumption) | exact isI.gx (isR.i (by assumption)) | exact isI.gx (isRd.i (by assumption)) | exact isI.gc (isRd.i (by assumption)) | exact isI.gx (isSp.i (by assumption)) | exact isW.gx (isR.w (by assumption)) | exact isW.gF (isR.w (by assumption)) | exact isK.gx (by assumption) | exact isK.gr (by assumption) | exact isI.gx (isK.row (by assumption) (by omega)) | exact isI.gc (isK.row (by assumption) (by omega)) | fail "no such object") rfl rfl (Nat.le_of_ble_eq_true rfl) (cq_faultNumber _ U_51 hc3 hF1 hF2 hF3 hF4 hF5 (hC3 5) ha (k := 0) (by decide) (by decide)) (fun v_111 h_111 q_111 => ?_)
                obtain ⟨rfl, rfl⟩ := q_111
                refine r_ireturn (pc := 114) .int dX10_trial_114 rfl (by first | rfl | assumption) ?_
                first
                | exact Or.inl ⟨fun z => absurd z.1 (by assumption), rfl, rfl⟩
                | exact Or.inl ⟨by omega, rfl, rfl⟩
                | exact Or.inr (Or.inl ⟨⟨by assumption, by omega⟩, by omega, rfl, rfl⟩)
                | (refine Or.inr (Or.inr ⟨CC, ?_, rfl⟩); ((repeat' split) <;> first | rfl | (exfalso; omega) | (exfalso; apply absurd ‹inW c3 2 10 a›; assumption)); done)
                | fail "leaf"
              by_cases e_64_2 : u = 2
              · rw [e_64_2] at ho_64
                obtain rfl : off_64 = 51 := ho_64.symm.trans (by decide)
                obtain rfl : tgt_64 = 115 := by omega
                refine r_aload (pc := 115) dX10_trial_115 rfl (by first | rfl | exact isRefV_rf _) ?_
                refine r_iload_n (pc := 117) dX10_trial_117 rfl ?_
                refine rj_iconst (pc := 118) dX10_trial_118 ?_
                refine r_callV2 (pc := 119) dX10_trial_119 qX9_faultThing kX10_215 vX9_faultThing (by first | assumption | exact isI.gx (by assumption) | exact isI.gc (by assumption) | exact isW.gx (by assumption) | exact isW.gF (by assumption) | exact isW.gT (by assumption) (by omega) | exact isW.gS (by assumption) (by omega) | exact isW.gK (by assumption) (by omega) | exact isW.g1 (by assumption) | exact isW.g2 (by assumption) | exact isW.g3 (by assumption) | exact isI.gx (isW.i0 (by assumption)) | exact isI.gc (isW.i0 (by assumption)) | exact isI.gx (isW.i1 (by assumption)) | exact isI.gc (isW.i1 (by assumption)) | exact isI.gx (isW.i2 (by assumption)) | exact isI.gc (isW.i2 (by assumption)) | exact isI.gx (isW.i3 (by assumption)) | exact isI.gc (isW.i3 (by assumption)) | exact isI.gx (isW.i4 (by assumption)) | exact isI.gc (isW.i4 (by assumption)) | exact isI.gx (isW.i5 (by assumption)) | exact isI.gc (isW.i5 (by assumption)) | exact isR.gx (by assumption) | exact isRd.gx (by assumption) | exact isSp.gx (by assumption) | exact isI.gx (isR.i (by assumption)) | exact isI.gx (isRd.i (by assumption)) | exact isI.gc (isRd.i (by assumption)) | exact isI.gx (isSp.i (by assumption)) | exact isW.gx (isR.w (by assumption)) | exact isW.gF (isR.w (by assumption)) | exact isK.gx (by assumption) | exact isK.gr (by assumption) | exact isI.gx (isK.row (by assumption) (by omega)) | exact isI.gc (isK.row (by assumption) (by omega)) | fail "no such object") rfl rfl (Nat.le_of_ble_eq_true rfl) (cq_faultThing _ U_51 hc3 hF1 hF2 hF3 hF4 hF5 (hC3 5) ha (k := 0) (by decide) (by decide)) (fun v_119 h_119 q_119 => ?_)
                obtain ⟨rfl, rfl⟩ := q_119
                refine r_ireturn (pc := 122) .int dX10_trial_122 rfl (by first | rfl | assumption) ?_
                first
                | exact Or.inl ⟨fun z => absurd z.1 (by assumption), rfl, rfl⟩
                | exact Or.inl ⟨by omega, rfl, rfl⟩
                | exact Or.inr (Or.inl ⟨⟨by assumption, by omega⟩, by omega, rfl, rfl⟩)
                | (refine Or.inr (Or.inr ⟨CC, ?_, rfl⟩); ((repeat' split) <;> first | rfl | (exfalso; omega) | (exfalso; apply absurd ‹inW c3 2 10 a›; assumption)); done)
                | fail "leaf"
              by_cases e_64_3 : u = 3
              · rw [e_64_3] at ho_64
                obtain rfl : off_64 = 59 := ho_64.symm.trans (by decide)
                obtain rfl : tgt_64 = 123 := by omega
                refine r_aload (pc := 123) dX10_trial_123 rfl (by first | rfl | exact isRefV_rf _) ?_
                refine r_ifnonnull (pc := 125) (tgt := 132) dX10_trial_125 (by decide) (by first | rfl | exact isRefV_rf _) (fun a_125 c_125 => ?_) (fun c_125 => by cases c_125)
                refine r_aload (pc := 132) dX10_trial_132 rfl (by first | rfl | exact isRefV_rf _) ?_
                refine r_getf (pc := 134) dX10_trial_134 fX10_230 (by first | assumption | exact isI.gx (by assumption) | exact isI.gc (by assumption) | exact isW.gx (by assumption) | exact isW.gF (by assumption) | exact isW.gT (by assumption) (by omega) | exact isW.gS (by assumption) (by omega) | exact isW.gK (by assumption) (by omega) | exact isW.g1 (by assumption) | exact isW.g2 (by assumption) | exact isW.g3 (by assumption) | exact isI.gx (isW.i0 (by assumption)) | exact isI.gc (isW.i0 (by assumption)) | exact isI.gx (isW.i1 (by assumption)) | exact isI.gc (isW.i1 (by assumption)) | exact isI.gx (isW.i2 (by assumption)) | exact isI.gc (isW.i2 (by assumption)) | exact isI.gx (isW.i3 (by assumption)) | exact isI.gc (isW.i3 (by assumption)) | exact isI.gx (isW.i4 (by assumption)) | exact isI.gc (isW.i4 (by assumption)) | exact isI.gx (isW.i5 (by assumption)) | exact isI.gc (isW.i5 (by assumption)) | exact isR.gx (by assumption) | exact isRd.gx (by assumption) | exact isSp.gx (by assumption) | exact isI.gx (isR.i (by assumption)) | exact isI.gx (isRd.i (by assumption)) | exact isI.gc (isRd.i (by assumption)) | exact isI.gx (isSp.i (by assumption)) | exact isW.gx (isR.w (by assumption)) | exact isW.gF (isR.w (by assumption)) | exact isK.gx (by assumption) | exact isK.gr (by assumption) | exact isI.gx (isK.row (by assumption) (by omega)) | exact isI.gc (isK.row (by assumption) (by omega)) | fail "no such object") (by rfl) ?_
                refine r_ireturn (pc := 137) .int dX10_trial_137 rfl (by first | rfl | assumption) ?_
                first
                | exact Or.inl ⟨fun z => absurd z.1 (by assumption), rfl, rfl⟩
                | exact Or.inl ⟨by omega, rfl, rfl⟩
                | exact Or.inr (Or.inl ⟨⟨by assumption, by omega⟩, by omega, rfl, rfl⟩)
                | (refine Or.inr (Or.inr ⟨CC, ?_, rfl⟩); ((repeat' split) <;> first | rfl | (exfalso; omega) | (exfalso; apply absurd ‹inW c3 2 10 a›; assumption)); done)
                | fail "leaf"
              by_cases e_64_4 : u = 4
              · rw [e_64_4] at ho_64
                obtain rfl : off_64 = 74 := ho_64.symm.trans (by decide)
                obtain rfl : tgt_64 = 138 := by omega
                refine r_aload (pc := 138) dX10_trial_138 rfl (by first | rfl | exact isRefV_rf _) ?_
                refine r_ifnonnull (pc := 140) (tgt := 147) dX10_trial_140 (by decide) (by first | rfl | exact isRefV_rf _) (fun a_140 c_140 => ?_) (fun c_140 => by cases c_140)
                refine r_aload (pc := 147) dX10_trial_147 rfl (by first | rfl | exact isRefV_rf _) ?_
                refine r_getf (pc := 149) dX10_trial_149 fX10_231 (by first | assumption | exact isI.gx (by assumption) | exact isI.gc (by assumption) | exact isW.gx (by assumption) | exact isW.gF (by assumption) | exact isW.gT (by assumption) (by omega) | exact isW.gS (by assumption) (by omega) | exact isW.gK (by assumption) (by omega) | exact isW.g1 (by assumption) | exact isW.g2 (by assumption) | exact isW.g3 (by assumption) | exact isI.gx (isW.i0 (by assumption)) | exact isI.gc (isW.i0 (by assumption)) | exact isI.gx (isW.i1 (by assumption)) | exact isI.gc (isW.i1 (by assumption)) | exact isI.gx (isW.i2 (by assumption)) | exact isI.gc (isW.i2 (by assumption)) | exact isI.gx (isW.i3 (by assumption)) | exact isI.gc (isW.i3 (by assumption)) | exact isI.gx (isW.i4 (by assumption)) | exact isI.gc (isW.i4 (by assumption)) | exact isI.gx (isW.i5 (by assumption)) | exact isI.gc (isW.i5 (by assumption)) | exact isR.gx (by assumption) | exact isRd.gx (by assumption) | exact isSp.gx (by assumption) | exact isI.gx (isR.i (by assumption)) | exact isI.gx (isRd.i (by assumption)) | exact isI.gc (isRd.i (by assumption)) | exact isI.gx (isSp.i (by assumption)) | exact isW.gx (isR.w (by assumption)) | exact isW.gF (isR.w (by assumption)) | exact isK.gx (by assumption) | exact isK.gr (by assumption) | exact isI.gx (isK.row (by assumption) (by omega)) | exact isI.gc (isK.row (by assumption) (by omega)) | fail "no such object") (by rfl) ?_
                refine r_ireturn (pc := 152) .int dX10_trial_152 rfl (by first | rfl | assumption) ?_
                first
                | exact Or.inl ⟨fun z => absurd z.1 (by assumption), rfl, rfl⟩
                | exact Or.inl ⟨by omega, rfl, rfl⟩
                | exact Or.inr (Or.inl ⟨⟨by assumption, by omega⟩, by omega, rfl, rfl⟩)
                | (refine Or.inr (Or.inr ⟨CC, ?_, rfl⟩); ((repeat' split) <;> first | rfl | (exfalso; omega) | (exfalso; apply absurd ‹inW c3 2 10 a›; assumption)); done)
                | fail "leaf"
              have eo_64 : off_64 = 89 := by
                rw [← ho_64]
                unfold tswOff
                rw [if_pos (by omega)]
              obtain rfl : tgt_64 = 153 := by omega
              refine r_aload (pc := 153) dX10_trial_153 rfl (by first | rfl | exact isRefV_rf _) ?_
              refine r_getf (pc := 155) dX10_trial_155 fX10_218 (by first | assumption | exact isI.gx (by assumption) | exact isI.gc (by assumption) | exact isW.gx (by assumption) | exact isW.gF (by assumption) | exact isW.gT (by assumption) (by omega) | exact isW.gS (by assumption) (by omega) | exact isW.gK (by assumption) (by omega) | exact isW.g1 (by assumption) | exact isW.g2 (by assumption) | exact isW.g3 (by assumption) | exact isI.gx (isW.i0 (by assumption)) | exact isI.gc (isW.i0 (by assumption)) | exact isI.gx (isW.i1 (by assumption)) | exact isI.gc (isW.i1 (by assumption)) | exact isI.gx (isW.i2 (by assumption)) | exact isI.gc (isW.i2 (by assumption)) | exact isI.gx (isW.i3 (by assumption)) | exact isI.gc (isW.i3 (by assumption)) | exact isI.gx (isW.i4 (by assumption)) | exact isI.gc (isW.i4 (by assumption)) | exact isI.gx (isW.i5 (by assumption)) | exact isI.gc (isW.i5 (by assumption)) | exact isR.gx (by assumption) | exact isRd.gx (by assumption) | exact isSp.gx (by assumption) | exact isI.gx (isR.i (by assumption)) | exact isI.gx (isRd.i (by assumption)) | exact isI.gc (isRd.i (by assumption)) | exact isI.gx (isSp.i (by assumption)) | exact isW.gx (isR.w (by assumption)) | exact isW.gF (isR.w (by assumption)) | exact isK.gx (by assumption) | exact isK.gr (by assumption) | exact isI.gx (isK.row (by assumption) (by omega)) | exact isI.gc (isK.row (by assumption) (by omega)) | fail "no such object") (by rfl) ?_
              refine r_getf (pc := 158) dX10_trial_158 fX10_55 (by first | assumption | exact isI.gx (by assumption) | exact isI.gc (by assumption) | exact isW.gx (by assumption) | exact isW.gF (by assumption) | exact isW.gT (by assumption) (by omega) | exact isW.gS (by assumption) (by omega) | exact isW.gK (by assumption) (by omega) | exact isW.g1 (by assumption) | exact isW.g2 (by assumption) | exact isW.g3 (by assumption) | exact isI.gx (isW.i0 (by assumption)) | exact isI.gc (isW.i0 (by assumption)) | exact isI.gx (isW.i1 (by assumption)) | exact isI.gc (isW.i1 (by assumption)) | exact isI.gx (isW.i2 (by assumption)) | exact isI.gc (isW.i2 (by assumption)) | exact isI.gx (isW.i3 (by assumption)) | exact isI.gc (isW.i3 (by assumption)) | exact isI.gx (isW.i4 (by assumption)) | exact isI.gc (isW.i4 (by assumption)) | exact isI.gx (isW.i5 (by assumption)) | exact isI.gc (isW.i5 (by assumption)) | exact isR.gx (by assumption) | exact isRd.gx (by assumption) | exact isSp.gx (by assumption) | exact isI.gx (isR.i (by assumption)) | exact isI.gx (isRd.i (by assumption)) | exact isI.gc (isRd.i (by assumption)) | exact isI.gx (isSp.i (by assumption)) | exact isW.gx (isR.w (by assumption)) | exact isW.gF (isR.w (by assumption)) | exact isK.gx (by assumption) | exact isK.gr (by assumption) | exact isI.gx (isK.row (by assumption) (by omega)) | exact isI.gc (isK.row (by assumption) (by omega)) | fail "no such object") (by rfl) ?_
              refine r_ireturn (pc := 161) .int dX10_trial_161 rfl (by first | rfl | assumption) ?_
              first
              | exact Or.inl ⟨fun z => absurd z.1 (by assumption), rfl, rfl⟩
              | exact Or.inl ⟨by omega, rfl, rfl⟩
              | exact Or.inr (Or.inl ⟨⟨by assumption, by omega⟩, by omega, rfl, rfl⟩)
              | (refine Or.inr (Or.inr ⟨CC, ?_, rfl⟩); ((repeat' split) <;> first | rfl | (exfalso; omega) | (exfalso; apply absurd ‹inW c3 2 10 a›; assumption)); done)
              | fail "leaf"
            · obtain rfl := tkAt_N e_58 q1_58
              refine r_astore (pc := 61) dX10_trial_61 (Nat.le_of_ble_eq_true rfl) (by first | rfl | exact isRefV_rf _) ?_
              dsimp only [lsSt, List.set, mLs, mEnt]
              refine r_iload_n (pc := 63) dX10_trial_63 rfl ?_
              refine rj_tsw (pc := 64) dX10_trial_64 (by first | exact b01_r | exact bz_r | omega | (constructor <;> omega) | apply_assumption | (apply atF_r; assumption) | fail "no range") (by decide) (by decide) (by decide) (fun off_64 tgt_64 ho_64 ht_64 => ?_)
              by_cases e_64_0 : u = 0
              · rw [e_64_0] at ho_64
                obtain rfl : off_64 = 36 := ho_64.symm.trans (by decide)
                obtain rfl : tgt_64 = 100 := by omega
                refine r_aload (pc := 100) dX10_trial_100 rfl (by first | rfl | exact isRefV_rf _) ?_
                refine r_iload_n (pc := 102) dX10_trial_102 rfl ?_
                refine r_callV1 (pc := 103) dX10_trial_103 qX9_faultCount kX10_227 vX9_faultCount (by first | assumption | exact isI.gx (by assumption) | exact isI.gc (by assumption) | exact isW.gx (by assumption) | exact isW.gF (by assumption) | exact isW.gT (by assumption) (by omega) | exact isW.gS (by assumption) (by omega) | exact isW.gK (by assumption) (by omega) | exact isW.g1 (by assumption) | exact isW.g2 (by assumption) | exact isW.g3 (by assumption) | exact isI.gx (isW.i0 (by assumption)) | exact isI.gc (isW.i0 (by assumption)) | exact isI.gx (isW.i1 (by assumption)) | exact isI.gc (isW.i1 (by assumption)) | exact isI.gx (isW.i2 (by assumption)) | exact isI.gc (isW.i2 (by assumption)) | exact isI.gx (isW.i3 (by assumption)) | exact isI.gc (isW.i3 (by assumption)) | exact isI.gx (isW.i4 (by assumption)) | exact isI.gc (isW.i4 (by assumption)) | exact isI.gx (isW.i5 (by assumption)) | exact isI.gc (isW.i5 (by assumption)) | exact isR.gx (by assumption) | exact isRd.gx (by assumption) | exact isSp.gx (by assumption) | exact isI.gx (isR.i (by assumption)) | exact isI.gx (isRd.i (by assumption)) | exact isI.gc (isRd.i (by assumption)) | exact isI.gx (isSp.i (by assumption)) | exact isW.gx (isR.w (by assumption)) | exact isW.gF (isR.w (by assumption)) | exact isK.gx (by assumption) | exact isK.gr (by assumption) | exact isI.gx (isK.row (by assumption) (by omega)) | exact isI.gc (isK.row (by assumption) (by omega)) | fail "no such object") rfl rfl (Nat.le_of_ble_eq_true rfl) (cq_faultCount _ U_51 hc3 hF1 hF2 hF3 hF4 hF5 (hC3 5) ha) (fun v_103 h_103 q_103 => ?_)
                obtain ⟨rfl, rfl⟩ := q_103
                refine r_ireturn (pc := 106) .int dX10_trial_106 rfl (by first | rfl | assumption) ?_
                first
                | exact Or.inl ⟨fun z => absurd z.1 (by assumption), rfl, rfl⟩
                | exact Or.inl ⟨by omega, rfl, rfl⟩
                | exact Or.inr (Or.inl ⟨⟨by assumption, by omega⟩, by omega, rfl, rfl⟩)
                | (refine Or.inr (Or.inr ⟨CC, ?_, rfl⟩); ((repeat' split) <;> first | rfl | (exfalso; omega) | (exfalso; apply absurd ‹inW c3 2 10 a›; assumption)); done)
                | fail "leaf"
              by_cases e_64_1 : u = 1
              · rw [e_64_1] at ho_64
                obtain rfl : off_64 = 43 := ho_64.symm.trans (by decide)
                obtain rfl : tgt_64 = 107 := by omega
                refine r_aload (pc := 107) dX10_trial_107 rfl (by first | rfl | exact isRefV_rf _) ?_
                refine r_iload_n (pc := 109) dX10_trial_109 rfl ?_
                refine rj_iconst (pc := 110) dX10_trial_110 ?_
                refine r_callV2 (pc := 111) dX10_trial_111 qX9_faultNumber kX10_212 vX9_faultNumber (by first | assumption | exact isI.gx (by assumption) | exact isI.gc (by assumption) | exact isW.gx (by assumption) | exact isW.gF (by assumption) | exact isW.gT (by assumption) (by omega) | exact isW.gS (by assumption) (by omega) | exact isW.gK (by assumption) (by omega) | exact isW.g1 (by assumption) | exact isW.g2 (by assumption) | exact isW.g3 (by assumption) | exact isI.gx (isW.i0 (by assumption)) | exact isI.gc (isW.i0 (by assumption)) | exact isI.gx (isW.i1 (by assumption)) | exact isI.gc (isW.i1 (by assumption)) | exact isI.gx (isW.i2 (by assumption)) | exact isI.gc (isW.i2 (by assumption)) | exact isI.gx (isW.i3 (by assumption)) | exact isI.gc (isW.i3 (by assumption)) | exact isI.gx (isW.i4 (by assumption)) | exact isI.gc (isW.i4 (by assumption)) | exact isI.gx (isW.i5 (by assumption)) | exact isI.gc (isW.i5 (by assumption)) | exact isR.gx (by assumption) | exact isRd.gx (by assumption) | exact isSp.gx (by assumption) | exact isI.gx (isR.i (by assumption)) | exact isI.gx (isRd.i (by assumption)) | exact isI.gc (isRd.i (by assumption)) | exact isI.gx (isSp.i (by assumption)) | exact isW.gx (isR.w (by assumption)) | exact isW.gF (isR.w (by assumption)) | exact isK.gx (by assumption) | exact isK.gr (by assumption) | exact isI.gx (isK.row (by assumption) (by omega)) | exact isI.gc (isK.row (by assumption) (by omega)) | fail "no such object") rfl rfl (Nat.le_of_ble_eq_true rfl) (cq_faultNumber _ U_51 hc3 hF1 hF2 hF3 hF4 hF5 (hC3 5) ha (k := 0) (by decide) (by decide)) (fun v_111 h_111 q_111 => ?_)
                obtain ⟨rfl, rfl⟩ := q_111
                refine r_ireturn (pc := 114) .int dX10_trial_114 rfl (by first | rfl | assumption) ?_
                first
                | exact Or.inl ⟨fun z => absurd z.1 (by assumption), rfl, rfl⟩
                | exact Or.inl ⟨by omega, rfl, rfl⟩
                | exact Or.inr (Or.inl ⟨⟨by assumption, by omega⟩, by omega, rfl, rfl⟩)
                | (refine Or.inr (Or.inr ⟨CC, ?_, rfl⟩); ((repeat' split) <;> first | rfl | (exfalso; omega) | (exfalso; apply absurd ‹inW c3 2 10 a›; assumption)); done)
                | fail "leaf"
              by_cases e_64_2 : u = 2
              · rw [e_64_2] at ho_64
                obtain rfl : off_64 = 51 := ho_64.symm.trans (by decide)
                obtain rfl : tgt_64 = 115 := by omega
                refine r_aload (pc := 115) dX10_trial_115 rfl (by first | rfl | exact isRefV_rf _) ?_
                refine r_iload_n (pc := 117) dX10_trial_117 rfl ?_
                refine rj_iconst (pc := 118) dX10_trial_118 ?_
                refine r_callV2 (pc := 119) dX10_trial_119 qX9_faultThing kX10_215 vX9_faultThing (by first | assumption | exact isI.gx (by assumption) | exact isI.gc (by assumption) | exact isW.gx (by assumption) | exact isW.gF (by assumption) | exact isW.gT (by assumption) (by omega) | exact isW.gS (by assumption) (by omega) | exact isW.gK (by assumption) (by omega) | exact isW.g1 (by assumption) | exact isW.g2 (by assumption) | exact isW.g3 (by assumption) | exact isI.gx (isW.i0 (by assumption)) | exact isI.gc (isW.i0 (by assumption)) | exact isI.gx (isW.i1 (by assumption)) | exact isI.gc (isW.i1 (by assumption)) | exact isI.gx (isW.i2 (by assumption)) | exact isI.gc (isW.i2 (by assumption)) | exact isI.gx (isW.i3 (by assumption)) | exact isI.gc (isW.i3 (by assumption)) | exact isI.gx (isW.i4 (by assumption)) | exact isI.gc (isW.i4 (by assumption)) | exact isI.gx (isW.i5 (by assumption)) | exact isI.gc (isW.i5 (by assumption)) | exact isR.gx (by assumption) | exact isRd.gx (by assumption) | exact isSp.gx (by assumption) | exact isI.gx (isR.i (by assumption)) | exact isI.gx (isRd.i (by assumption)) | exact isI.gc (isRd.i (by assumption)) | exact isI.gx (isSp.i (by assumption)) | exact isW.gx (isR.w (by assumption)) | exact isW.gF (isR.w (by assumption)) | exact isK.gx (by assumption) | exact isK.gr (by assumption) | exact isI.gx (isK.row (by assumption) (by omega)) | exact isI.gc (isK.row (by assumption) (by omega)) | fail "no such object") rfl rfl (Nat.le_of_ble_eq_true rfl) (cq_faultThing _ U_51 hc3 hF1 hF2 hF3 hF4 hF5 (hC3 5) ha (k := 0) (by decide) (by decide)) (fun v_119 h_119 q_119 => ?_)
                obtain ⟨rfl, rfl⟩ := q_119
                refine r_ireturn (pc := 122) .int dX10_trial_122 rfl (by first | rfl | assumption) ?_
                first
                | exact Or.inl ⟨fun z => absurd z.1 (by assumption), rfl, rfl⟩
                | exact Or.inl ⟨by omega, rfl, rfl⟩
                | exact Or.inr (Or.inl ⟨⟨by assumption, by omega⟩, by omega, rfl, rfl⟩)
                | (refine Or.inr (Or.inr ⟨CC, ?_, rfl⟩); ((repeat' split) <;> first | rfl | (exfalso; omega) | (exfalso; apply absurd ‹inW c3 2 10 a›; assumption)); done)
                | fail "leaf"
              by_cases e_64_3 : u = 3
              · rw [e_64_3] at ho_64
                obtain rfl : off_64 = 59 := ho_64.symm.trans (by decide)
                obtain rfl : tgt_64 = 123 := by omega
                refine r_aload (pc := 123) dX10_trial_123 rfl (by first | rfl | exact isRefV_rf _) ?_
                refine r_ifnonnull (pc := 125) (tgt := 132) dX10_trial_125 (by decide) (by first | rfl | exact isRefV_rf _) (fun a_125 c_125 => by cases c_125) (fun c_125 => ?_)
                refine rj_iconst (pc := 128) dX10_trial_128 ?_
                refine r_goto (pc := 129) (tgt := 137) dX10_trial_129 (by decide) ?_
                refine r_ireturn (pc := 137) .int dX10_trial_137 rfl (by first | rfl | assumption) ?_
                first
                | exact Or.inl ⟨fun z => absurd z.1 (by assumption), rfl, rfl⟩
                | exact Or.inl ⟨by omega, rfl, rfl⟩
                | exact Or.inr (Or.inl ⟨⟨by assumption, by omega⟩, by omega, rfl, rfl⟩)
                | (refine Or.inr (Or.inr ⟨CC, ?_, rfl⟩); ((repeat' split) <;> first | rfl | (exfalso; omega) | (exfalso; apply absurd ‹inW c3 2 10 a›; assumption)); done)
                | fail "leaf"
              by_cases e_64_4 : u = 4
              · rw [e_64_4] at ho_64
                obtain rfl : off_64 = 74 := ho_64.symm.trans (by decide)
                obtain rfl : tgt_64 = 138 := by omega
                refine r_aload (pc := 138) dX10_trial_138 rfl (by first | rfl | exact isRefV_rf _) ?_
                refine r_ifnonnull (pc := 140) (tgt := 147) dX10_trial_140 (by decide) (by first | rfl | exact isRefV_rf _) (fun a_140 c_140 => by cases c_140) (fun c_140 => ?_)
                refine rj_iconst (pc := 143) dX10_trial_143 ?_
                refine r_goto (pc := 144) (tgt := 152) dX10_trial_144 (by decide) ?_
                refine r_ireturn (pc := 152) .int dX10_trial_152 rfl (by first | rfl | assumption) ?_
                first
                | exact Or.inl ⟨fun z => absurd z.1 (by assumption), rfl, rfl⟩
                | exact Or.inl ⟨by omega, rfl, rfl⟩
                | exact Or.inr (Or.inl ⟨⟨by assumption, by omega⟩, by omega, rfl, rfl⟩)
                | (refine Or.inr (Or.inr ⟨CC, ?_, rfl⟩); ((repeat' split) <;> first | rfl | (exfalso; omega) | (exfalso; apply absurd ‹inW c3 2 10 a›; assumption)); done)
                | fail "leaf"
              have eo_64 : off_64 = 89 := by
                rw [← ho_64]
                unfold tswOff
                rw [if_pos (by omega)]
              obtain rfl : tgt_64 = 153 := by omega
              refine r_aload (pc := 153) dX10_trial_153 rfl (by first | rfl | exact isRefV_rf _) ?_
              refine r_getf (pc := 155) dX10_trial_155 fX10_218 (by first | assumption | exact isI.gx (by assumption) | exact isI.gc (by assumption) | exact isW.gx (by assumption) | exact isW.gF (by assumption) | exact isW.gT (by assumption) (by omega) | exact isW.gS (by assumption) (by omega) | exact isW.gK (by assumption) (by omega) | exact isW.g1 (by assumption) | exact isW.g2 (by assumption) | exact isW.g3 (by assumption) | exact isI.gx (isW.i0 (by assumption)) | exact isI.gc (isW.i0 (by assumption)) | exact isI.gx (isW.i1 (by assumption)) | exact isI.gc (isW.i1 (by assumption)) | exact isI.gx (isW.i2 (by assumption)) | exact isI.gc (isW.i2 (by assumption)) | exact isI.gx (isW.i3 (by assumption)) | exact isI.gc (isW.i3 (by assumption)) | exact isI.gx (isW.i4 (by assumption)) | exact isI.gc (isW.i4 (by assumption)) | exact isI.gx (isW.i5 (by assumption)) | exact isI.gc (isW.i5 (by assumption)) | exact isR.gx (by assumption) | exact isRd.gx (by assumption) | exact isSp.gx (by assumption) | exact isI.gx (isR.i (by assumption)) | exact isI.gx (isRd.i (by assumption)) | exact isI.gc (isRd.i (by assumption)) | exact isI.gx (isSp.i (by assumption)) | exact isW.gx (isR.w (by assumption)) | exact isW.gF (isR.w (by assumption)) | exact isK.gx (by assumption) | exact isK.gr (by assumption) | exact isI.gx (isK.row (by assumption) (by omega)) | exact isI.gc (isK.row (by assumption) (by omega)) | fail "no such object") (by rfl) ?_
              refine r_getf (pc := 158) dX10_trial_158 fX10_55 (by first | assumption | exact isI.gx (by assumption) | exact isI.gc (by assumption) | exact isW.gx (by assumption) | exact isW.gF (by assumption) | exact isW.gT (by assumption) (by omega) | exact isW.gS (by assumption) (by omega) | exact isW.gK (by assumption) (by omega) | exact isW.g1 (by assumption) | exact isW.g2 (by assumption) | exact isW.g3 (by assumption) | exact isI.gx (isW.i0 (by assumption)) | exact isI.gc (isW.i0 (by assumption)) | exact isI.gx (isW.i1 (by assumption)) | exact isI.gc (isW.i1 (by assumption)) | exact isI.gx (isW.i2 (by assumption)) | exact isI.gc (isW.i2 (by assumption)) | exact isI.gx (isW.i3 (by assumption)) | exact isI.gc (isW.i3 (by assumption)) | exact isI.gx (isW.i4 (by assumption)) | exact isI.gc (isW.i4 (by assumption)) | exact isI.gx (isW.i5 (by assumption)) | exact isI.gc (isW.i5 (by assumption)) | exact isR.gx (by assumption) | exact isRd.gx (by assumption) | exact isSp.gx (by assumption) | exact isI.gx (isR.i (by assumption)) | exact isI.gx (isRd.i (by assumption)) | exact isI.gc (isRd.i (by assumption)) | exact isI.gx (isSp.i (by assumption)) | exact isW.gx (isR.w (by assumption)) | exact isW.gF (isR.w (by assumption)) | exact isK.gx (by assumption) | exact isK.gr (by assumption) | exact isI.gx (isK.row (by assumption) (by omega)) | exact isI.gc (isK.row (by assumption) (by omega)) | fail "no such object") (by rfl) ?_
              refine r_ireturn (pc := 161) .int dX10_trial_161 rfl (by first | rfl | assumption) ?_
              first
              | exact Or.inl ⟨fun z => absurd z.1 (by assumption), rfl, rfl⟩
              | exact Or.inl ⟨by omega, rfl, rfl⟩
              | exact Or.inr (Or.inl ⟨⟨by assumption, by omega⟩, by omega, rfl, rfl⟩)
              | (refine Or.inr (Or.inr ⟨CC, ?_, rfl⟩); ((repeat' split) <;> first | rfl | (exfalso; omega) | (exfalso; apply absurd ‹inW c3 2 10 a›; assumption)); done)
              | fail "leaf"
          · refine rj_bipush (pc := 32) dX10_trial_32 (by decide +kernel) ?_
            refine r_ireturn (pc := 34) .int dX10_trial_34 rfl (by first | rfl | assumption) ?_
            first
            | exact Or.inl ⟨fun z => absurd z.1 (by assumption), rfl, rfl⟩
            | exact Or.inl ⟨by omega, rfl, rfl⟩
            | exact Or.inr (Or.inl ⟨⟨by assumption, by omega⟩, by omega, rfl, rfl⟩)
            | (refine Or.inr (Or.inr ⟨CC, ?_, rfl⟩); ((repeat' split) <;> first | rfl | (exfalso; omega) | (exfalso; apply absurd ‹inW c3 2 10 a›; assumption)); done)
            | fail "leaf"
      · refine rj_iconst (pc := 20) dX10_trial_20 ?_
        refine r_ireturn (pc := 21) .int dX10_trial_21 rfl (by first | rfl | assumption) ?_
        first
        | exact Or.inl ⟨fun z => absurd z.1 (by assumption), rfl, rfl⟩
        | exact Or.inl ⟨by omega, rfl, rfl⟩
        | exact Or.inr (Or.inl ⟨⟨by assumption, by omega⟩, by omega, rfl, rfl⟩)
        | (refine Or.inr (Or.inr ⟨CC, ?_, rfl⟩); ((repeat' split) <;> first | rfl | (exfalso; omega) | (exfalso; apply absurd ‹inW c3 2 10 a›; assumption)); done)
        | fail "leaf"
  · obtain rfl := tkAt_N e_5 q1_5
    refine r_ifnull (pc := 8) (tgt := 20) dX10_trial_8 (by decide) (by first | rfl | exact isRefV_rf _) (fun c_8 => ?_) (fun a_8 c_8 => by cases c_8)
    refine rj_iconst (pc := 20) dX10_trial_20 ?_
    refine r_ireturn (pc := 21) .int dX10_trial_21 rfl (by first | rfl | assumption) ?_
    first
    | exact Or.inl ⟨fun z => absurd z.1 (by assumption), rfl, rfl⟩
    | exact Or.inl ⟨by omega, rfl, rfl⟩
    | exact Or.inr (Or.inl ⟨⟨by assumption, by omega⟩, by omega, rfl, rfl⟩)
    | (refine Or.inr (Or.inr ⟨CC, ?_, rfl⟩); ((repeat' split) <;> first | rfl | (exfalso; omega) | (exfalso; apply absurd ‹inW c3 2 10 a›; assumption)); done)
    | fail "leaf"

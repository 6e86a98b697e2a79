section mg_f1
set_option maxHeartbeats 4000000 in
set_option maxRecDepth 100000 in
theorem kg_copy {G : mG} {l : Launch} (d : Nat) {h : mH} {x : Nat} {kp tk : Option Nat} {zr : Nat → Int} {fr : Nat → Nat → Int} {p e o zt : Int} {ft : Nat → Int} {zs : Int} {fs : Nat → Int} {b za : Int} {fa : Nat → Int} {c : Nat → Int} {C : Nat → Nat → Int} {nm : Nat → Int64} {g : Nat → Option Nat} (hK : isK h x kp tk zr fr p e o zt ft zs fs b za fa c C nm g) (hc : ∀ q, InR (c q)) (hC : ∀ k q, InR (C k q)) {a : Int} (ha : InR a) {i : Int} (hi : InR i) {u : Int} (hu : InR u) {t : Int} (ht : InR t) {n : Int} (hn : InR n) (hzr : ∀ q, InR (zr q) ∧ zr q ≤ 40) : RUNM G l (d + 9) mX10_copy [.ref x, .int (J a), .int (J i), .int (J u), .int (J t), .int (J n)] h (fun v h' => (¬ ((0 ≤ a ∧ a < 4) ∧ (0 ≤ u ∧ u < 4)) ∧ v = some (.int (J (-1))) ∧ h' = h) ∨ (((0 ≤ a ∧ a < 4) ∧ (0 ≤ u ∧ u < 4)) ∧ ¬ (¬ zr a.toNat = -11 ∧ ¬ zr u.toNat = -11) ∧ v = some (.int (J (-11))) ∧ h' = h) ∨ ((((0 ≤ a ∧ a < 4) ∧ (0 ≤ u ∧ u < 4)) ∧ (¬ zr a.toNat = -11 ∧ ¬ zr u.toNat = -11)) ∧ ¬ ((0 ≤ i ∧ 0 ≤ n ∧ i + n ≤ zr a.toNat) ∧ (0 ≤ t ∧ 0 ≤ n ∧ t + n ≤ zr u.toNat)) ∧ v = some (.int (J (-13))) ∧ h' = h) ∨ ((((0 ≤ a ∧ a < 4) ∧ (0 ≤ u ∧ u < 4)) ∧ (¬ zr a.toNat = -11 ∧ ¬ zr u.toNat = -11)) ∧ ((0 ≤ i ∧ 0 ≤ n ∧ i + n ≤ zr a.toNat) ∧ (0 ≤ t ∧ 0 ≤ n ∧ t + n ≤ zr u.toNat)) ∧ v = some (.int (J n)) ∧ isK h' x kp tk zr (updC fr u.toNat (cpK (fr a.toNat) (fr u.toNat) i.toNat t.toNat n.toNat)) p e o zt ft zs fs b za fa c C nm g ∧ Same (kBlk x) h h')) := by
  refine RUNM.of (by decide +kernel) (Nat.le_of_ble_eq_true rfl) ?_
  have hD := hK.d
  have hS := hK.s
  have hR := hK.r
  have hW := hK.w
  refine r_aload_n (pc := 0) dX10_copy_0 rfl (by first | rfl | exact isRefV_rf _) ?_
  refine r_iload_n (pc := 1) dX10_copy_1 rfl ?_
  refine r_callV1 (pc := 2) dX10_copy_2 qX10_rowAt kX10_286 vX10_rowAt (by first | assumption | exact isI.gx (by assumption) | exact isI.gc (by assumption) | exact isW.gx (by assumption) | exact isW.gF (by assumption) | exact isW.gT (by assumption) (by omega) | exact isW.gS (by assumption) (by omega) | exact isW.gK (by assumption) (by omega) | exact isW.g1 (by assumption) | exact isW.g2 (by assumption) | exact isW.g3 (by assumption) | exact isI.gx (isW.i0 (by assumption)) | exact isI.gc (isW.i0 (by assumption)) | exact isI.gx (isW.i1 (by assumption)) | exact isI.gc (isW.i1 (by assumption)) | exact isI.gx (isW.i2 (by assumption)) | exact isI.gc (isW.i2 (by assumption)) | exact isI.gx (isW.i3 (by assumption)) | exact isI.gc (isW.i3 (by assumption)) | exact isI.gx (isW.i4 (by assumption)) | exact isI.gc (isW.i4 (by assumption)) | exact isI.gx (isW.i5 (by assumption)) | exact isI.gc (isW.i5 (by assumption)) | exact isR.gx (by assumption) | exact isRd.gx (by assumption) | exact isSp.gx (by assumption) | exact isI.gx (isR.i (by assumption)) | exact isI.gx (isRd.i (by assumption)) | exact isI.gc (isRd.i (by assumption)) | exact isI.gx (isSp.i (by assumption)) | exact isW.gx (isR.w (by assumption)) | exact isW.gF (isR.w (by assumption)) | exact isK.gx (by assumption) | exact isK.gr (by assumption) | exact isI.gx (isK.row (by assumption) (by omega)) | exact isI.gc (isK.row (by assumption) (by omega)) | fail "no such object") rfl rfl (Nat.le_of_ble_eq_true rfl) (kg_rowAt _ hK hc hC ha) (fun v_2 h_2 q_2 => ?_)
  obtain ⟨q1_2, rfl⟩ := q_2
  by_cases e_2 : 0 ≤ a ∧ a < 4
  · obtain rfl := rwAt_P e_2 q1_2
    have I_a := hK.row (q := a.toNat) (by omega)
    refine r_astore (pc := 5) dX10_copy_5 (Nat.le_of_ble_eq_true rfl) (by first | rfl | exact isRefV_rf _) ?_
    dsimp only [lsSt, List.set, mLs, mEnt]
    refine r_aload_n (pc := 7) dX10_copy_7 rfl (by first | rfl | exact isRefV_rf _) ?_
    refine r_iload_n (pc := 8) dX10_copy_8 rfl ?_
    refine r_callV1 (pc := 9) dX10_copy_9 qX10_rowAt kX10_286 vX10_rowAt (by first | assumption | exact isI.gx (by assumption) | exact isI.gc (by assumption) | exact isW.gx (by assumption) | exact isW.gF (by assumption) | exact isW.gT (by assumption) (by omega) | exact isW.gS (by assumption) (by omega) | exact isW.gK (by assumption) (by omega) | exact isW.g1 (by assumption) | exact isW.g2 (by assumption) | exact isW.g3 (by assumption) | exact isI.gx (isW.i0 (by assumption)) | exact isI.gc (isW.i0 (by assumption)) | exact isI.gx (isW.i1 (by assumption)) | exact isI.gc (isW.i1 (by assumption)) | exact isI.gx (isW.i2 (by assumption)) | exact isI.gc (isW.i2 (by assumption)) | exact isI.gx (isW.i3 (by assumption)) | exact isI.gc (isW.i3 (by assumption)) | exact isI.gx (isW.i4 (by assumption)) | exact isI.gc (isW.i4 (by assumption)) | exact isI.gx (isW.i5 (by assumption)) | exact isI.gc (isW.i5 (by assumption)) | exact isR.gx (by assumption) | exact isRd.gx (by assumption) | exact isSp.gx (by assumption) | exact isI.gx (isR.i (by assumption)) | exact isI.gx (isRd.i (by assumption)) | exact isI.gc (isRd.i (by assumption)) | exact isI.gx (isSp.i (by assumption)) | exact isW.gx (isR.w (by assumption)) | exact isW.gF (isR.w (by assumption)) | exact isK.gx (by assumption) | exact isK.gr (by assumption) | exact isI.gx (isK.row (by assumption) (by omega)) | exact isI.gc (isK.row (by assumption) (by omega)) | fail "no such object") rfl rfl (Nat.le_of_ble_eq_true rfl) (kg_rowAt _ hK hc hC hu) (fun v_9 h_9 q_9 => ?_)
    obtain ⟨q1_9, rfl⟩ := q_9
    by_cases e_9 : 0 ≤ u ∧ u < 4
    · obtain rfl := rwAt_P e_9 q1_9
      have I_u := hK.row (q := u.toNat) (by omega)
      refine r_astore (pc := 12) dX10_copy_12 (Nat.le_of_ble_eq_true rfl) (by first | rfl | exact isRefV_rf _) ?_
      dsimp only [lsSt, List.set, mLs, mEnt]
      refine r_aload (pc := 14) dX10_copy_14 rfl (by first | rfl | exact isRefV_rf _) ?_
      refine r_ifnull (pc := 16) (tgt := 24) dX10_copy_16 (by decide) (by first | rfl | exact isRefV_rf _) (fun c_16 => by cases c_16) (fun a_16 c_16 => ?_)
      refine r_aload (pc := 19) dX10_copy_19 rfl (by first | rfl | exact isRefV_rf _) ?_
      refine r_ifnonnull (pc := 21) (tgt := 26) dX10_copy_21 (by decide) (by first | rfl | exact isRefV_rf _) (fun a_21 c_21 => ?_) (fun c_21 => by cases c_21)
      refine r_aload (pc := 26) dX10_copy_26 rfl (by first | rfl | exact isRefV_rf _) ?_
      have rza := hzr a.toNat
      have rzu := hzr u.toNat
      refine r_getf (pc := 28) dX10_copy_28 fX10_55 (by first | assumption | exact isI.gx (by assumption) | exact isI.gc (by assumption) | exact isW.gx (by assumption) | exact isW.gF (by assumption) | exact isW.gT (by assumption) (by omega) | exact isW.gS (by assumption) (by omega) | exact isW.gK (by assumption) (by omega) | exact isW.g1 (by assumption) | exact isW.g2 (by assumption) | exact isW.g3 (by assumption) | exact isI.gx (isW.i0 (by assumption)) | exact isI.gc (isW.i0 (by assumption)) | exact isI.gx (isW.i1 (by assumption)) | exact isI.gc (isW.i1 (by assumption)) | exact isI.gx (isW.i2 (by assumption)) | exact isI.gc (isW.i2 (by assumption)) | exact isI.gx (isW.i3 (by assumption)) | exact isI.gc (isW.i3 (by assumption)) | exact isI.gx (isW.i4 (by assumption)) | exact isI.gc (isW.i4 (by assumption)) | exact isI.gx (isW.i5 (by assumption)) | exact isI.gc (isW.i5 (by assumption)) | exact isR.gx (by assumption) | exact isRd.gx (by assumption) | exact isSp.gx (by assumption) | exact isI.gx (isR.i (by assumption)) | exact isI.gx (isRd.i (by assumption)) | exact isI.gc (isRd.i (by assumption)) | exact isI.gx (isSp.i (by assumption)) | exact isW.gx (isR.w (by assumption)) | exact isW.gF (isR.w (by assumption)) | exact isK.gx (by assumption) | exact isK.gr (by assumption) | exact isI.gx (isK.row (by assumption) (by omega)) | exact isI.gc (isK.row (by assumption) (by omega)) | fail "no such object") (by rfl) ?_
      refine rj_bipush (pc := 31) dX10_copy_31 (by decide +kernel) ?_
      refine rj_icmp_eq (pc := 33) (tgt := 46) dX10_copy_33 (by decide) (by first | exact b01_r | exact bz_r | omega | (constructor <;> omega) | apply_assumption | (apply atF_r; assumption) | fail "no range") (by first | exact b01_r | exact bz_r | omega | (constructor <;> omega) | apply_assumption | (apply atF_r; assumption) | fail "no range") (fun c_33 => ?_) (fun c_33 => ?_)
      · refine rj_bipush (pc := 46) dX10_copy_46 (by decide +kernel) ?_
        refine r_ireturn (pc := 48) .int dX10_copy_48 rfl (by first | rfl | assumption) ?_
        first
        | exact Or.inl ⟨fun z => absurd z.1 (by assumption), rfl, rfl⟩
        | exact Or.inl ⟨fun z => absurd z.2 (by assumption), rfl, rfl⟩
        | exact Or.inr (Or.inl ⟨⟨by assumption, by assumption⟩, by omega, rfl, rfl⟩)
        | exact Or.inr (Or.inr (Or.inl ⟨⟨⟨by assumption, by assumption⟩, ⟨by omega, by omega⟩⟩, by omega, rfl, rfl⟩))
        | (have K9 := hK.ofRow (by omega) S_90 I_90; rw [updI_id] at K9; exact Or.inr (Or.inr (Or.inr ⟨⟨⟨by assumption, by assumption⟩, ⟨by omega, by omega⟩⟩, ⟨by omega, by omega⟩, rfl, K9, same_ki (by omega) S_90⟩)))
        | fail "leaf"
      · refine r_aload (pc := 36) dX10_copy_36 rfl (by first | rfl | exact isRefV_rf _) ?_
        refine r_getf (pc := 38) dX10_copy_38 fX10_55 (by first | assumption | exact isI.gx (by assumption) | exact isI.gc (by assumption) | exact isW.gx (by assumption) | exact isW.gF (by assumption) | exact isW.gT (by assumption) (by omega) | exact isW.gS (by assumption) (by omega) | exact isW.gK (by assumption) (by omega) | exact isW.g1 (by assumption) | exact isW.g2 (by assumption) | exact isW.g3 (by assumption) | exact isI.gx (isW.i0 (by assumption)) | exact isI.gc (isW.i0 (by assumption)) | exact isI.gx (isW.i1 (by assumption)) | exact isI.gc (isW.i1 (by assumption)) | exact isI.gx (isW.i2 (by assumption)) | exact isI.gc (isW.i2 (by assumption)) | exact isI.gx (isW.i3 (by assumption)) | exact isI.gc (isW.i3 (by assumption)) | exact isI.gx (isW.i4 (by assumption)) | exact isI.gc (isW.i4 (by assumption)) | exact isI.gx (isW.i5 (by assumption)) | exact isI.gc (isW.i5 (by assumption)) | exact isR.gx (by assumption) | exact isRd.gx (by assumption) | exact isSp.gx (by assumption) | exact isI.gx (isR.i (by assumption)) | exact isI.gx (isRd.i (by assumption)) | exact isI.gc (isRd.i (by assumption)) | exact isI.gx (isSp.i (by assumption)) | exact isW.gx (isR.w (by assumption)) | exact isW.gF (isR.w (by assumption)) | exact isK.gx (by assumption) | exact isK.gr (by assumption) | exact isI.gx (isK.row (by assumption) (by omega)) | exact isI.gc (isK.row (by assumption) (by omega)) | fail "no such object") (by rfl) ?_
        refine rj_bipush (pc := 41) dX10_copy_41 (by decide +kernel) ?_
        refine rj_icmp_ne (pc := 43) (tgt := 49) dX10_copy_43 (by decide) (by first | exact b01_r | exact bz_r | omega | (constructor <;> omega) | apply_assumption | (apply atF_r; assumption) | fail "no range") (by first | exact b01_r | exact bz_r | omega | (constructor <;> omega) | apply_assumption | (apply atF_r; assumption) | fail "no range") (fun c_43 => ?_) (fun c_43 => ?_)
        · refine r_aload (pc := 49) dX10_copy_49 rfl (by first | rfl | exact isRefV_rf _) ?_
          refine r_iload_n (pc := 51) dX10_copy_51 rfl ?_
          refine r_iload (pc := 52) dX10_copy_52 rfl ?_
          refine r_callV2 (pc := 54) dX10_copy_54 qX1_hasRange kX10_293 vX1_hasRange (by first | assumption | exact isI.gx (by assumption) | exact isI.gc (by assumption) | exact isW.gx (by assumption) | exact isW.gF (by assumption) | exact isW.gT (by assumption) (by omega) | exact isW.gS (by assumption) (by omega) | exact isW.gK (by assumption) (by omega) | exact isW.g1 (by assumption) | exact isW.g2 (by assumption) | exact isW.g3 (by assumption) | exact isI.gx (isW.i0 (by assumption)) | exact isI.gc (isW.i0 (by assumption)) | exact isI.gx (isW.i1 (by assumption)) | exact isI.gc (isW.i1 (by assumption)) | exact isI.gx (isW.i2 (by assumption)) | exact isI.gc (isW.i2 (by assumption)) | exact isI.gx (isW.i3 (by assumption)) | exact isI.gc (isW.i3 (by assumption)) | exact isI.gx (isW.i4 (by assumption)) | exact isI.gc (isW.i4 (by assumption)) | exact isI.gx (isW.i5 (by assumption)) | exact isI.gc (isW.i5 (by assumption)) | exact isR.gx (by assumption) | exact isRd.gx (by assumption) | exact isSp.gx (by assumption) | exact isI.gx (isR.i (by assumption)) | exact isI.gx (isRd.i (by assumption)) | exact isI.gc (isRd.i (by assumption)) | exact isI.gx (isSp.i (by assumption)) | exact isW.gx (isR.w (by assumption)) | exact isW.gF (isR.w (by assumption)) | exact isK.gx (by assumption) | exact isK.gr (by assumption) | exact isI.gx (isK.row (by assumption) (by omega)) | exact isI.gc (isK.row (by assumption) (by omega)) | fail "no such object") rfl rfl (Nat.le_of_ble_eq_true rfl) (ci_hasRange _ I_a (by decide) (hzr _).1 (hzr _).2 hi hn) (fun v_54 h_54 q_54 => ?_)
          obtain ⟨rfl, rfl⟩ := q_54
          refine rj_if_eq (pc := 57) (tgt := 72) dX10_copy_57 (by decide) (by first | exact b01_r | exact bz_r | omega | (constructor <;> omega) | apply_assumption | (apply atF_r; assumption) | fail "no range") (fun c_57 => ?_) (fun c_57 => ?_)
          · try simp only [b01_0, bz_0, Classical.not_not] at c_57
            refine rj_bipush (pc := 72) dX10_copy_72 (by decide +kernel) ?_
            refine r_ireturn (pc := 74) .int dX10_copy_74 rfl (by first | rfl | assumption) ?_
            first
            | exact Or.inl ⟨fun z => absurd z.1 (by assumption), rfl, rfl⟩
            | exact Or.inl ⟨fun z => absurd z.2 (by assumption), rfl, rfl⟩
            | exact Or.inr (Or.inl ⟨⟨by assumption, by assumption⟩, by omega, rfl, rfl⟩)
            | exact Or.inr (Or.inr (Or.inl ⟨⟨⟨by assumption, by assumption⟩, ⟨by omega, by omega⟩⟩, by omega, rfl, rfl⟩))
            | (have K9 := hK.ofRow (by omega) S_90 I_90; rw [updI_id] at K9; exact Or.inr (Or.inr (Or.inr ⟨⟨⟨by assumption, by assumption⟩, ⟨by omega, by omega⟩⟩, ⟨by omega, by omega⟩, rfl, K9, same_ki (by omega) S_90⟩)))
            | fail "leaf"
          · try simp only [b01_0, bz_0, Classical.not_not] at c_57
            refine r_aload (pc := 60) dX10_copy_60 rfl (by first | rfl | exact isRefV_rf _) ?_
            refine r_iload (pc := 62) dX10_copy_62 rfl ?_
            refine r_iload (pc := 64) dX10_copy_64 rfl ?_
            refine r_callV2 (pc := 66) dX10_copy_66 qX1_hasRange kX10_293 vX1_hasRange (by first | assumption | exact isI.gx (by assumption) | exact isI.gc (by assumption) | exact isW.gx (by assumption) | exact isW.gF (by assumption) | exact isW.gT (by assumption) (by omega) | exact isW.gS (by assumption) (by omega) | exact isW.gK (by assumption) (by omega) | exact isW.g1 (by assumption) | exact isW.g2 (by assumption) | exact isW.g3 (by assumption) | exact isI.gx (isW.i0 (by assumption)) | exact isI.gc (isW.i0 (by assumption)) | exact isI.gx (isW.i1 (by assumption)) | exact isI.gc (isW.i1 (by assumption)) | exact isI.gx (isW.i2 (by assumption)) | exact isI.gc (isW.i2 (by assumption)) | exact isI.gx (isW.i3 (by assumption)) | exact isI.gc (isW.i3 (by assumption)) | exact isI.gx (isW.i4 (by assumption)) | exact isI.gc (isW.i4 (by assumption)) | exact isI.gx (isW.i5 (by assumption)) | exact isI.gc (isW.i5 (by assumption)) | exact isR.gx (by assumption) | exact isRd.gx (by assumption) | exact isSp.gx (by assumption) | exact isI.gx (isR.i (by assumption)) | exact isI.gx (isRd.i (by assumption)) | exact isI.gc (isRd.i (by assumption)) | exact isI.gx (isSp.i (by assumption)) | exact isW.gx (isR.w (by assumption)) | exact isW.gF (isR.w (by assumption)) | exact isK.gx (by assumption) | exact isK.gr (by assumption) | exact isI.gx (isK.row (by assumption) (by omega)) | exact isI.gc (isK.row (by assumption) (by omega)) | fail "no such object") rfl rfl (Nat.le_of_ble_eq_true rfl) (ci_hasRange _ I_u (by decide) (hzr _).1 (hzr _).2 ht hn) (fun v_66 h_66 q_66 => ?_)
            obtain ⟨rfl, rfl⟩ := q_66
            refine rj_if_ne (pc := 69) (tgt := 75) dX10_copy_69 (by decide) (by first | exact b01_r | exact bz_r | omega | (constructor <;> omega) | apply_assumption | (apply atF_r; assumption) | fail "no range") (fun c_69 => ?_) (fun c_69 => ?_)
            · try simp only [b01_0, bz_0, Classical.not_not] at c_69
              refine r_aload (pc := 75) dX10_copy_75 rfl (by first | rfl | exact isRefV_rf _) ?_
              refine r_getf (pc := 77) dX10_copy_77 fX10_296 (by first | assumption | exact isI.gx (by assumption) | exact isI.gc (by assumption) | exact isW.gx (by assumption) | exact isW.gF (by assumption) | exact isW.gT (by assumption) (by omega) | exact isW.gS (by assumption) (by omega) | exact isW.gK (by assumption) (by omega) | exact isW.g1 (by assumption) | exact isW.g2 (by assumption) | exact isW.g3 (by assumption) | exact isI.gx (isW.i0 (by assumption)) | exact isI.gc (isW.i0 (by assumption)) | exact isI.gx (isW.i1 (by assumption)) | exact isI.gc (isW.i1 (by assumption)) | exact isI.gx (isW.i2 (by assumption)) | exact isI.gc (isW.i2 (by assumption)) | exact isI.gx (isW.i3 (by assumption)) | exact isI.gc (isW.i3 (by assumption)) | exact isI.gx (isW.i4 (by assumption)) | exact isI.gc (isW.i4 (by assumption)) | exact isI.gx (isW.i5 (by assumption)) | exact isI.gc (isW.i5 (by assumption)) | exact isR.gx (by assumption) | exact isRd.gx (by assumption) | exact isSp.gx (by assumption) | exact isI.gx (isR.i (by assumption)) | exact isI.gx (isRd.i (by assumption)) | exact isI.gc (isRd.i (by assumption)) | exact isI.gx (isSp.i (by assumption)) | exact isW.gx (isR.w (by assumption)) | exact isW.gF (isR.w (by assumption)) | exact isK.gx (by assumption) | exact isK.gr (by assumption) | exact isI.gx (isK.row (by assumption) (by omega)) | exact isI.gc (isK.row (by assumption) (by omega)) | fail "no such object") (by rfl) ?_
              refine r_iload_n (pc := 80) dX10_copy_80 rfl ?_
              refine r_aload (pc := 81) dX10_copy_81 rfl (by first | rfl | exact isRefV_rf _) ?_
              refine r_getf (pc := 83) dX10_copy_83 fX10_296 (by first | assumption | exact isI.gx (by assumption) | exact isI.gc (by assumption) | exact isW.gx (by assumption) | exact isW.gF (by assumption) | exact isW.gT (by assumption) (by omega) | exact isW.gS (by assumption) (by omega) | exact isW.gK (by assumption) (by omega) | exact isW.g1 (by assumption) | exact isW.g2 (by assumption) | exact isW.g3 (by assumption) | exact isI.gx (isW.i0 (by assumption)) | exact isI.gc (isW.i0 (by assumption)) | exact isI.gx (isW.i1 (by assumption)) | exact isI.gc (isW.i1 (by assumption)) | exact isI.gx (isW.i2 (by assumption)) | exact isI.gc (isW.i2 (by assumption)) | exact isI.gx (isW.i3 (by assumption)) | exact isI.gc (isW.i3 (by assumption)) | exact isI.gx (isW.i4 (by assumption)) | exact isI.gc (isW.i4 (by assumption)) | exact isI.gx (isW.i5 (by assumption)) | exact isI.gc (isW.i5 (by assumption)) | exact isR.gx (by assumption) | exact isRd.gx (by assumption) | exact isSp.gx (by assumption) | exact isI.gx (isR.i (by assumption)) | exact isI.gx (isRd.i (by assumption)) | exact isI.gc (isRd.i (by assumption)) | exact isI.gx (isSp.i (by assumption)) | exact isW.gx (isR.w (by assumption)) | exact isW.gF (isR.w (by assumption)) | exact isK.gx (by assumption) | exact isK.gr (by assumption) | exact isI.gx (isK.row (by assumption) (by omega)) | exact isI.gc (isK.row (by assumption) (by omega)) | fail "no such object") (by rfl) ?_
              refine r_iload (pc := 86) dX10_copy_86 rfl ?_
              refine r_iload (pc := 88) dX10_copy_88 rfl ?_
              refine rj_acopy (pc := 90) dX10_copy_90 kX10_300 I_a.gc I_u.gc I_a.lo1 I_u.lo1 hi ht hn (by omega) (by omega) (by omega) (by omega) (by omega) (by decide) ?_
              refine rg_gen (fun h_90 o_90 s_90 l_90 n_90 k_90 => ?_)
              have S_90 : Same (iBlk (kR x u.toNat)) _ h_90 := ⟨l_90, n_90, k_90, fun b hb => s_90 b (fun e => hb (Or.inr e))⟩
              have I_90 : isI h_90 (kR x u.toNat) 40 (zr u.toNat) (cpK (fr a.toNat) (fr u.toNat) i.toNat t.toNat n.toNat) := ⟨by rw [l_90]; exact I_u.lo, (s_90 _ (by omega)).trans I_u.gx, o_90⟩
              refine r_iload (pc := 93) dX10_copy_93 rfl ?_
              refine r_ireturn (pc := 95) .int dX10_copy_95 rfl (by first | rfl | assumption) ?_
              first
              | exact Or.inl ⟨fun z => absurd z.1 (by assumption), rfl, rfl⟩
              | exact Or.inl ⟨fun z => absurd z.2 (by assumption), rfl, rfl⟩
              | exact Or.inr (Or.inl ⟨⟨by assumption, by assumption⟩, by omega, rfl, rfl⟩)
              | exact Or.inr (Or.inr (Or.inl ⟨⟨⟨by assumption, by assumption⟩, ⟨by omega, by omega⟩⟩, by omega, rfl, rfl⟩))
              | (have K9 := hK.ofRow (by omega) S_90 I_90; rw [updI_id] at K9; exact Or.inr (Or.inr (Or.inr ⟨⟨⟨by assumption, by assumption⟩, ⟨by omega, by omega⟩⟩, ⟨by omega, by omega⟩, rfl, K9, same_ki (by omega) S_90⟩)))
              | fail "leaf"
            · try simp only [b01_0, bz_0, Classical.not_not] at c_69
              refine rj_bipush (pc := 72) dX10_copy_72 (by decide +kernel) ?_
              refine r_ireturn (pc := 74) .int dX10_copy_74 rfl (by first | rfl | assumption) ?_
              first
              | exact Or.inl ⟨fun z => absurd z.1 (by assumption), rfl, rfl⟩
              | exact Or.inl ⟨fun z => absurd z.2 (by assumption), rfl, rfl⟩
              | exact Or.inr (Or.inl ⟨⟨by assumption, by assumption⟩, by omega, rfl, rfl⟩)
              | exact Or.inr (Or.inr (Or.inl ⟨⟨⟨by assumption, by assumption⟩, ⟨by omega, by omega⟩⟩, by omega, rfl, rfl⟩))
              | (have K9 := hK.ofRow (by omega) S_90 I_90; rw [updI_id] at K9; exact Or.inr (Or.inr (Or.inr ⟨⟨⟨by assumption, by assumption⟩, ⟨by omega, by omega⟩⟩, ⟨by omega, by omega⟩, rfl, K9, same_ki (by omega) S_90⟩)))
              | fail "leaf"
        · refine rj_bipush (pc := 46) dX10_copy_46 (by decide +kernel) ?_
          refine r_ireturn (pc := 48) .int dX10_copy_48 rfl (by first | rfl | assumption) ?_
          first
          | exact Or.inl ⟨fun z => absurd z.1 (by assumption), rfl, rfl⟩
          | exact Or.inl ⟨fun z => absurd z.2 (by assumption), rfl, rfl⟩
          | exact Or.inr (Or.inl ⟨⟨by assumption, by assumption⟩, by omega, rfl, rfl⟩)
          | exact Or.inr (Or.inr (Or.inl ⟨⟨⟨by assumption, by assumption⟩, ⟨by omega, by omega⟩⟩, by omega, rfl, rfl⟩))
          | (have K9 := hK.ofRow (by omega) S_90 I_90; rw [updI_id] at K9; exact Or.inr (Or.inr (Or.inr ⟨⟨⟨by assumption, by assumption⟩, ⟨by omega, by omega⟩⟩, ⟨by omega, by omega⟩, rfl, K9, same_ki (by omega) S_90⟩)))
          | fail "leaf"
    · obtain rfl := rwAt_N e_9 q1_9
      refine r_astore (pc := 12) dX10_copy_12 (Nat.le_of_ble_eq_true rfl) (by first | rfl | exact isRefV_rf _) ?_
      dsimp only [lsSt, List.set, mLs, mEnt]
      refine r_aload (pc := 14) dX10_copy_14 rfl (by first | rfl | exact isRefV_rf _) ?_
      refine r_ifnull (pc := 16) (tgt := 24) dX10_copy_16 (by decide) (by first | rfl | exact isRefV_rf _) (fun c_16 => by cases c_16) (fun a_16 c_16 => ?_)
      refine r_aload (pc := 19) dX10_copy_19 rfl (by first | rfl | exact isRefV_rf _) ?_
      refine r_ifnonnull (pc := 21) (tgt := 26) dX10_copy_21 (by decide) (by first | rfl | exact isRefV_rf _) (fun a_21 c_21 => by cases c_21) (fun c_21 => ?_)
      refine rj_iconst (pc := 24) dX10_copy_24 ?_
      refine r_ireturn (pc := 25) .int dX10_copy_25 rfl (by first | rfl | assumption) ?_
      first
      | exact Or.inl ⟨fun z => absurd z.1 (by assumption), rfl, rfl⟩
      | exact Or.inl ⟨fun z => absurd z.2 (by assumption), rfl, rfl⟩
      | exact Or.inr (Or.inl ⟨⟨by assumption, by assumption⟩, by omega, rfl, rfl⟩)
      | exact Or.inr (Or.inr (Or.inl ⟨⟨⟨by assumption, by assumption⟩, ⟨by omega, by omega⟩⟩, by omega, rfl, rfl⟩))
      | (have K9 := hK.ofRow (by omega) S_90 I_90; rw [updI_id] at K9; exact Or.inr (Or.inr (Or.inr ⟨⟨⟨by assumption, by assumption⟩, ⟨by omega, by omega⟩⟩, ⟨by omega, by omega⟩, rfl, K9, same_ki (by omega) S_90⟩)))
      | fail "leaf"
  · obtain rfl := rwAt_N e_2 q1_2
    refine r_astore (pc := 5) dX10_copy_5 (Nat.le_of_ble_eq_true rfl) (by first | rfl | exact isRefV_rf _) ?_
    dsimp only [lsSt, List.set, mLs, mEnt]
    refine r_aload_n (pc := 7) dX10_copy_7 rfl (by first | rfl | exact isRefV_rf _) ?_
    refine r_iload_n (pc := 8) dX10_copy_8 rfl ?_
    refine r_callV1 (pc := 9) dX10_copy_9 qX10_rowAt kX10_286 vX10_rowAt (by first | assumption | exact isI.gx (by assumption) | exact isI.gc (by assumption) | exact isW.gx (by assumption) | exact isW.gF (by assumption) | exact isW.gT (by assumption) (by omega) | exact isW.gS (by assumption) (by omega) | exact isW.gK (by assumption) (by omega) | exact isW.g1 (by assumption) | exact isW.g2 (by assumption) | exact isW.g3 (by assumption) | exact isI.gx (isW.i0 (by assumption)) | exact isI.gc (isW.i0 (by assumption)) | exact isI.gx (isW.i1 (by assumption)) | exact isI.gc (isW.i1 (by assumption)) | exact isI.gx (isW.i2 (by assumption)) | exact isI.gc (isW.i2 (by assumption)) | exact isI.gx (isW.i3 (by assumption)) | exact isI.gc (isW.i3 (by assumption)) | exact isI.gx (isW.i4 (by assumption)) | exact isI.gc (isW.i4 (by assumption)) | exact isI.gx (isW.i5 (by assumption)) | exact isI.gc (isW.i5 (by assumption)) | exact isR.gx (by assumption) | exact isRd.gx (by assumption) | exact isSp.gx (by assumption) | exact isI.gx (isR.i (by assumption)) | exact isI.gx (isRd.i (by assumption)) | exact isI.gc (isRd.i (by assumption)) | exact isI.gx (isSp.i (by assumption)) | exact isW.gx (isR.w (by assumption)) | exact isW.gF (isR.w (by assumption)) | exact isK.gx (by assumption) | exact isK.gr (by assumption) | exact isI.gx (isK.row (by assumption) (by omega)) | exact isI.gc (isK.row (by assumption) (by omega)) | fail "no such object") rfl rfl (Nat.le_of_ble_eq_true rfl) (kg_rowAt _ hK hc hC hu) (fun v_9 h_9 q_9 => ?_)
    obtain ⟨q1_9, rfl⟩ := q_9
    by_cases e_9 : 0 ≤ u ∧ u < 4
    · obtain rfl := rwAt_P e_9 q1_9
      have I_u := hK.row (q := u.toNat) (by omega)
      refine r_astore (pc := 12) dX10_copy_12 (Nat.le_of_ble_eq_true rfl) (by first | rfl | exact isRefV_rf _) ?_
      dsimp only [lsSt, List.set, mLs, mEnt]
      refine r_aload (pc := 14) dX10_copy_14 rfl (by first | rfl | exact isRefV_rf _) ?_
      refine r_ifnull (pc := 16) (tgt := 24) dX10_copy_16 (by decide) (by first | rfl | exact isRefV_rf _) (fun c_16 => ?_) (fun a_16 c_16 => by cases c_16)
      refine rj_iconst (pc := 24) dX10_copy_24 ?_
      refine r_ireturn (pc := 25) .int dX10_copy_25 rfl (by first | rfl | assumption) ?_
      first
      | exact Or.inl ⟨fun z => absurd z.1 (by assumption), rfl, rfl⟩
      | exact Or.inl ⟨fun z => absurd z.2 (by assumption), rfl, rfl⟩
      | exact Or.inr (Or.inl ⟨⟨by assumption, by assumption⟩, by omega, rfl, rfl⟩)
      | exact Or.inr (Or.inr (Or.inl ⟨⟨⟨by assumption, by assumption⟩, ⟨by omega, by omega⟩⟩, by omega, rfl, rfl⟩))
      | (have K9 := hK.ofRow (by omega) S_90 I_90; rw [updI_id] at K9; exact Or.inr (Or.inr (Or.inr ⟨⟨⟨by assumption, by assumption⟩, ⟨by omega, by omega⟩⟩, ⟨by omega, by omega⟩, rfl, K9, same_ki (by omega) S_90⟩)))
      | fail "leaf"
    · obtain rfl := rwAt_N e_9 q1_9
      refine r_astore (pc := 12) dX10_copy_12 (Nat.le_of_ble_eq_true rfl) (by first | rfl | exact isRefV_rf _) ?_
      dsimp only [lsSt, List.set, mLs, mEnt]
      refine r_aload (pc := 14) dX10_copy_14 rfl (by first | rfl | exact isRefV_rf _) ?_
      refine r_ifnull (pc := 16) (tgt := 24) dX10_copy_16 (by decide) (by first | rfl | exact isRefV_rf _) (fun c_16 => ?_) (fun a_16 c_16 => by cases c_16)
      refine rj_iconst (pc := 24) dX10_copy_24 ?_
      refine r_ireturn (pc := 25) .int dX10_copy_25 rfl (by first | rfl | assumption) ?_
      first
      | exact Or.inl ⟨fun z => absurd z.1 (by assumption), rfl, rfl⟩
      | exact Or.inl ⟨fun z => absurd z.2 (by assumption), rfl, rfl⟩
      | exact Or.inr (Or.inl ⟨⟨by assumption, by assumption⟩, by omega, rfl, rfl⟩)
      | exact Or.inr (Or.inr (Or.inl ⟨⟨⟨by assumption, by assumption⟩, ⟨by omega, by omega⟩⟩, by omega, rfl, rfl⟩))
      | (have K9 := hK.ofRow (by omega) S_90 I_90; rw [updI_id] at K9; exact Or.inr (Or.inr (Or.inr ⟨⟨⟨by assumption, by assumption⟩, ⟨by omega, by omega⟩⟩, ⟨by omega, by omega⟩, rfl, K9, same_ki (by omega) S_90⟩)))
      | fail "leaf"
end mg_f1

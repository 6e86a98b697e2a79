section mg_88
set_option maxHeartbeats 4000000 in
set_option maxRecDepth 100000 in
theorem L_lastToEnd {G : mG} {l : Launch} (d : Nat) {h : mH} {w : Nat} {c : Nat → Int} {C : Nat → Nat → Int} {nm : Nat → Int64} {g : Nat → Option Nat} (hW : isW h w c C nm g) (hc : ∀ q, InR (c q)) {Z : Nat} (hZ : c 10 = (Z : Int)) (hcapZ : Z ≤ 150) (hC : ∀ q, InR (C 2 q)) {i : Int} (hi : InR i) : ∀ (t : Nat) (o0 o1 : Option Value), t ≤ Z → RUN G l (d + 2) mX9_lastToEnd 10 [some (.ref w), some (.int (J i)), some (.int (J ((t : Int) - 1))), o0, o1] [] h (fun v h' => v = some (.int (J (ltL c (C 2) i t))) ∧ h' = h) := by
  intro t
  induction t with
  | zero =>
    intro o0 o1 ht
    refine r_iload_n (pc := 10) dX9_lastToEnd_10 rfl ?_
    refine rj_if_lt (pc := 11) (tgt := 69) dX9_lastToEnd_11 (by decide) (by first | exact b01_r | exact bz_r | omega | (constructor <;> omega) | apply_assumption | (apply atF_r; assumption) | fail "no range") (fun c_11 => ?_) (fun c_11 => ?_)
    · refine rj_iconst (pc := 69) dX9_lastToEnd_69 ?_
      refine r_ireturn (pc := 70) .int dX9_lastToEnd_70 rfl (by first | rfl | assumption) ?_
      exact ⟨rfl, rfl⟩
    · exfalso; omega
  | succ t ih =>
    intro o0 o1 ht
    have e1 : ((t + 1 : Nat) : Int) - 1 = (t : Int) := by omega
    rw [e1]
    have rc := hC t
    refine r_iload_n (pc := 10) dX9_lastToEnd_10 rfl ?_
    refine rj_if_lt (pc := 11) (tgt := 69) dX9_lastToEnd_11 (by decide) (by first | exact b01_r | exact bz_r | omega | (constructor <;> omega) | apply_assumption | (apply atF_r; assumption) | fail "no range") (fun c_11 => ?_) (fun c_11 => ?_)
    · refine rj_iconst (pc := 69) dX9_lastToEnd_69 ?_
      refine r_ireturn (pc := 70) .int dX9_lastToEnd_70 rfl (by first | rfl | assumption) ?_
      first | (exfalso; omega) | exact ⟨by rw [ltL, if_pos ⟨Or.inl ⟨by omega, c_49⟩, c_58⟩], rfl⟩ | exact ⟨by rw [ltL, if_pos ⟨Or.inr ⟨by omega, c_49⟩, c_58⟩], rfl⟩
    · refine r_aload_n (pc := 14) dX9_lastToEnd_14 rfl (by first | rfl | exact isRefV_rf _) ?_
      refine r_getf (pc := 15) dX9_lastToEnd_15 fX9_41 (by first | assumption | exact isI.gx (by assumption) | exact isI.gc (by assumption) | exact isW.gx (by assumption) | exact isW.gF (by assumption) | exact isW.gT (by assumption) (by omega) | exact isW.gS (by assumption) (by omega) | exact isW.gK (by assumption) (by omega) | exact isW.g1 (by assumption) | exact isW.g2 (by assumption) | exact isW.g3 (by assumption) | exact isI.gx (isW.i0 (by assumption)) | exact isI.gc (isW.i0 (by assumption)) | exact isI.gx (isW.i1 (by assumption)) | exact isI.gc (isW.i1 (by assumption)) | exact isI.gx (isW.i2 (by assumption)) | exact isI.gc (isW.i2 (by assumption)) | exact isI.gx (isW.i3 (by assumption)) | exact isI.gc (isW.i3 (by assumption)) | exact isI.gx (isW.i4 (by assumption)) | exact isI.gc (isW.i4 (by assumption)) | exact isI.gx (isW.i5 (by assumption)) | exact isI.gc (isW.i5 (by assumption)) | exact isR.gx (by assumption) | exact isRd.gx (by assumption) | exact isSp.gx (by assumption) | exact isI.gx (isR.i (by assumption)) | exact isI.gx (isRd.i (by assumption)) | exact isI.gc (isRd.i (by assumption)) | exact isI.gx (isSp.i (by assumption)) | exact isW.gx (isR.w (by assumption)) | exact isW.gF (isR.w (by assumption)) | fail "no such object") (by rfl) ?_
      refine r_iload_n (pc := 18) dX9_lastToEnd_18 rfl ?_
      refine r_callV1 (pc := 19) dX9_lastToEnd_19 qX1_at kX9_147 vX1_at (by first | assumption | exact isI.gx (by assumption) | exact isI.gc (by assumption) | exact isW.gx (by assumption) | exact isW.gF (by assumption) | exact isW.gT (by assumption) (by omega) | exact isW.gS (by assumption) (by omega) | exact isW.gK (by assumption) (by omega) | exact isW.g1 (by assumption) | exact isW.g2 (by assumption) | exact isW.g3 (by assumption) | exact isI.gx (isW.i0 (by assumption)) | exact isI.gc (isW.i0 (by assumption)) | exact isI.gx (isW.i1 (by assumption)) | exact isI.gc (isW.i1 (by assumption)) | exact isI.gx (isW.i2 (by assumption)) | exact isI.gc (isW.i2 (by assumption)) | exact isI.gx (isW.i3 (by assumption)) | exact isI.gc (isW.i3 (by assumption)) | exact isI.gx (isW.i4 (by assumption)) | exact isI.gc (isW.i4 (by assumption)) | exact isI.gx (isW.i5 (by assumption)) | exact isI.gc (isW.i5 (by assumption)) | exact isR.gx (by assumption) | exact isRd.gx (by assumption) | exact isSp.gx (by assumption) | exact isI.gx (isR.i (by assumption)) | exact isI.gx (isRd.i (by assumption)) | exact isI.gc (isRd.i (by assumption)) | exact isI.gx (isSp.i (by assumption)) | exact isW.gx (isR.w (by assumption)) | exact isW.gF (isR.w (by assumption)) | fail "no such object") rfl rfl (Nat.le_of_ble_eq_true rfl) (cn_ent (d) hW hc hZ hcapZ hC (t := t) (by omega)) (fun v_19 h_19 q_19 => ?_)
      obtain ⟨rfl, rfl⟩ := q_19
      refine r_istore_n (pc := 22) dX9_lastToEnd_22 (Nat.le_of_ble_eq_true rfl) ?_
      dsimp only [lsSt, List.set, mLs, mEnt]
      refine r_iload_n (pc := 23) dX9_lastToEnd_23 rfl ?_
      refine rj_bipush (pc := 24) dX9_lastToEnd_24 (by decide +kernel) ?_
      refine rj_icmp_lt (pc := 26) (tgt := 40) dX9_lastToEnd_26 (by decide) (by first | exact b01_r | exact bz_r | omega | (constructor <;> omega) | apply_assumption | (apply atF_r; assumption) | fail "no range") (by first | exact b01_r | exact bz_r | omega | (constructor <;> omega) | apply_assumption | (apply atF_r; assumption) | fail "no range") (fun c_26 => ?_) (fun c_26 => ?_)
      · refine r_aload_n (pc := 40) dX9_lastToEnd_40 rfl (by first | rfl | exact isRefV_rf _) ?_
        refine r_iload_n (pc := 41) dX9_lastToEnd_41 rfl ?_
        refine r_callV1 (pc := 42) dX9_lastToEnd_42 qX9_isHeld kX9_157 vX9_isHeld (by first | assumption | exact isI.gx (by assumption) | exact isI.gc (by assumption) | exact isW.gx (by assumption) | exact isW.gF (by assumption) | exact isW.gT (by assumption) (by omega) | exact isW.gS (by assumption) (by omega) | exact isW.gK (by assumption) (by omega) | exact isW.g1 (by assumption) | exact isW.g2 (by assumption) | exact isW.g3 (by assumption) | exact isI.gx (isW.i0 (by assumption)) | exact isI.gc (isW.i0 (by assumption)) | exact isI.gx (isW.i1 (by assumption)) | exact isI.gc (isW.i1 (by assumption)) | exact isI.gx (isW.i2 (by assumption)) | exact isI.gc (isW.i2 (by assumption)) | exact isI.gx (isW.i3 (by assumption)) | exact isI.gc (isW.i3 (by assumption)) | exact isI.gx (isW.i4 (by assumption)) | exact isI.gc (isW.i4 (by assumption)) | exact isI.gx (isW.i5 (by assumption)) | exact isI.gc (isW.i5 (by assumption)) | exact isR.gx (by assumption) | exact isRd.gx (by assumption) | exact isSp.gx (by assumption) | exact isI.gx (isR.i (by assumption)) | exact isI.gx (isRd.i (by assumption)) | exact isI.gc (isRd.i (by assumption)) | exact isI.gx (isSp.i (by assumption)) | exact isW.gx (isR.w (by assumption)) | exact isW.gF (isR.w (by assumption)) | fail "no such object") rfl rfl (Nat.le_of_ble_eq_true rfl) (cw_isHeld _ hW hc (i := C 2 t) (hC t)) (fun v_42 h_42 q_42 => ?_)
        obtain ⟨rfl, rfl⟩ := q_42
        refine r_istore (pc := 45) dX9_lastToEnd_45 (Nat.le_of_ble_eq_true rfl) ?_
        dsimp only [lsSt, List.set, mLs, mEnt]
        refine r_iload (pc := 47) dX9_lastToEnd_47 rfl ?_
        refine rj_if_eq (pc := 49) (tgt := 63) dX9_lastToEnd_49 (by decide) (by first | exact b01_r | exact bz_r | omega | (constructor <;> omega) | apply_assumption | (apply atF_r; assumption) | fail "no range") (fun c_49 => ?_) (fun c_49 => ?_)
        · try simp only [b01_0, bz_0, Classical.not_not] at c_49
          refine rj_iinc (pc := 63) dX9_lastToEnd_63 (Nat.le_of_ble_eq_true rfl) rfl ?_
          dsimp only [lsSt, List.set, mLs, mEnt]
          refine r_goto (pc := 66) (tgt := 10) dX9_lastToEnd_66 (by decide) ?_
          rw [ltL, if_neg (fun g => c_49 (g.1.elim (fun z => absurd z.1 (by omega)) (fun z => z.2)))]
          rw [show (t : Int) - 1 = (t : Int) + -1 by omega] at ih
          exact ih _ _ (by omega)
        · try simp only [b01_0, bz_0, Classical.not_not] at c_49
          refine r_aload_n (pc := 52) dX9_lastToEnd_52 rfl (by first | rfl | exact isRefV_rf _) ?_
          refine r_iload_n (pc := 53) dX9_lastToEnd_53 rfl ?_
          refine r_callV1 (pc := 54) dX9_lastToEnd_54 qX9_ownerOf kX9_151 vX9_ownerOf (by first | assumption | exact isI.gx (by assumption) | exact isI.gc (by assumption) | exact isW.gx (by assumption) | exact isW.gF (by assumption) | exact isW.gT (by assumption) (by omega) | exact isW.gS (by assumption) (by omega) | exact isW.gK (by assumption) (by omega) | exact isW.g1 (by assumption) | exact isW.g2 (by assumption) | exact isW.g3 (by assumption) | exact isI.gx (isW.i0 (by assumption)) | exact isI.gc (isW.i0 (by assumption)) | exact isI.gx (isW.i1 (by assumption)) | exact isI.gc (isW.i1 (by assumption)) | exact isI.gx (isW.i2 (by assumption)) | exact isI.gc (isW.i2 (by assumption)) | exact isI.gx (isW.i3 (by assumption)) | exact isI.gc (isW.i3 (by assumption)) | exact isI.gx (isW.i4 (by assumption)) | exact isI.gc (isW.i4 (by assumption)) | exact isI.gx (isW.i5 (by assumption)) | exact isI.gc (isW.i5 (by assumption)) | exact isR.gx (by assumption) | exact isRd.gx (by assumption) | exact isSp.gx (by assumption) | exact isI.gx (isR.i (by assumption)) | exact isI.gx (isRd.i (by assumption)) | exact isI.gc (isRd.i (by assumption)) | exact isI.gx (isSp.i (by assumption)) | exact isW.gx (isR.w (by assumption)) | exact isW.gF (isR.w (by assumption)) | fail "no such object") rfl rfl (Nat.le_of_ble_eq_true rfl) (cw_ownerOf (d) hW hc (i := C 2 t) (hC t)) (fun v_54 h_54 q_54 => ?_)
          obtain ⟨rfl, rfl⟩ := q_54
          have ro := ownF_r hc (C 2 t)
          refine r_iload_n (pc := 57) dX9_lastToEnd_57 rfl ?_
          refine rj_icmp_ne (pc := 58) (tgt := 63) dX9_lastToEnd_58 (by decide) (by first | exact b01_r | exact bz_r | omega | (constructor <;> omega) | apply_assumption | (apply atF_r; assumption) | fail "no range") (by first | exact b01_r | exact bz_r | omega | (constructor <;> omega) | apply_assumption | (apply atF_r; assumption) | fail "no range") (fun c_58 => ?_) (fun c_58 => ?_)
          · refine rj_iinc (pc := 63) dX9_lastToEnd_63 (Nat.le_of_ble_eq_true rfl) rfl ?_
            dsimp only [lsSt, List.set, mLs, mEnt]
            refine r_goto (pc := 66) (tgt := 10) dX9_lastToEnd_66 (by decide) ?_
            rw [ltL, if_neg (fun g => c_58 g.2)]
            rw [show (t : Int) - 1 = (t : Int) + -1 by omega] at ih
            exact ih _ _ (by omega)
          · refine r_iload_n (pc := 61) dX9_lastToEnd_61 rfl ?_
            refine r_ireturn (pc := 62) .int dX9_lastToEnd_62 rfl (by first | rfl | assumption) ?_
            first | (exfalso; omega) | exact ⟨by rw [ltL, if_pos ⟨Or.inl ⟨by omega, c_49⟩, c_58⟩], rfl⟩ | exact ⟨by rw [ltL, if_pos ⟨Or.inr ⟨by omega, c_49⟩, c_58⟩], rfl⟩
      · refine r_aload_n (pc := 29) dX9_lastToEnd_29 rfl (by first | rfl | exact isRefV_rf _) ?_
        refine r_iload_n (pc := 30) dX9_lastToEnd_30 rfl ?_
        refine rj_bipush (pc := 31) dX9_lastToEnd_31 (by decide +kernel) ?_
        refine rj_isub (pc := 33) dX9_lastToEnd_33 ?_
        refine r_callV1 (pc := 34) dX9_lastToEnd_34 qX9_isOpen kX9_154 vX9_isOpen (by first | assumption | exact isI.gx (by assumption) | exact isI.gc (by assumption) | exact isW.gx (by assumption) | exact isW.gF (by assumption) | exact isW.gT (by assumption) (by omega) | exact isW.gS (by assumption) (by omega) | exact isW.gK (by assumption) (by omega) | exact isW.g1 (by assumption) | exact isW.g2 (by assumption) | exact isW.g3 (by assumption) | exact isI.gx (isW.i0 (by assumption)) | exact isI.gc (isW.i0 (by assumption)) | exact isI.gx (isW.i1 (by assumption)) | exact isI.gc (isW.i1 (by assumption)) | exact isI.gx (isW.i2 (by assumption)) | exact isI.gc (isW.i2 (by assumption)) | exact isI.gx (isW.i3 (by assumption)) | exact isI.gc (isW.i3 (by assumption)) | exact isI.gx (isW.i4 (by assumption)) | exact isI.gc (isW.i4 (by assumption)) | exact isI.gx (isW.i5 (by assumption)) | exact isI.gc (isW.i5 (by assumption)) | exact isR.gx (by assumption) | exact isRd.gx (by assumption) | exact isSp.gx (by assumption) | exact isI.gx (isR.i (by assumption)) | exact isI.gx (isRd.i (by assumption)) | exact isI.gc (isRd.i (by assumption)) | exact isI.gx (isSp.i (by assumption)) | exact isW.gx (isR.w (by assumption)) | exact isW.gF (isR.w (by assumption)) | fail "no such object") rfl rfl (Nat.le_of_ble_eq_true rfl) (cw_isOpen _ hW hc (i := C 2 t - 100) ⟨by omega, by omega⟩) (fun v_34 h_34 q_34 => ?_)
        obtain ⟨rfl, rfl⟩ := q_34
        refine r_goto (pc := 37) (tgt := 45) dX9_lastToEnd_37 (by decide) ?_
        refine r_istore (pc := 45) dX9_lastToEnd_45 (Nat.le_of_ble_eq_true rfl) ?_
        dsimp only [lsSt, List.set, mLs, mEnt]
        refine r_iload (pc := 47) dX9_lastToEnd_47 rfl ?_
        refine rj_if_eq (pc := 49) (tgt := 63) dX9_lastToEnd_49 (by decide) (by first | exact b01_r | exact bz_r | omega | (constructor <;> omega) | apply_assumption | (apply atF_r; assumption) | fail "no range") (fun c_49 => ?_) (fun c_49 => ?_)
        · try simp only [b01_0, bz_0, Classical.not_not] at c_49
          refine rj_iinc (pc := 63) dX9_lastToEnd_63 (Nat.le_of_ble_eq_true rfl) rfl ?_
          dsimp only [lsSt, List.set, mLs, mEnt]
          refine r_goto (pc := 66) (tgt := 10) dX9_lastToEnd_66 (by decide) ?_
          rw [ltL, if_neg (fun g => c_49 (g.1.elim (fun z => z.2) (fun z => absurd z.1 (by omega))))]
          rw [show (t : Int) - 1 = (t : Int) + -1 by omega] at ih
          exact ih _ _ (by omega)
        · try simp only [b01_0, bz_0, Classical.not_not] at c_49
          refine r_aload_n (pc := 52) dX9_lastToEnd_52 rfl (by first | rfl | exact isRefV_rf _) ?_
          refine r_iload_n (pc := 53) dX9_lastToEnd_53 rfl ?_
          refine r_callV1 (pc := 54) dX9_lastToEnd_54 qX9_ownerOf kX9_151 vX9_ownerOf (by first | assumption | exact isI.gx (by assumption) | exact isI.gc (by assumption) | exact isW.gx (by assumption) | exact isW.gF (by assumption) | exact isW.gT (by assumption) (by omega) | exact isW.gS (by assumption) (by omega) | exact isW.gK (by assumption) (by omega) | exact isW.g1 (by assumption) | exact isW.g2 (by assumption) | exact isW.g3 (by assumption) | exact isI.gx (isW.i0 (by assumption)) | exact isI.gc (isW.i0 (by assumption)) | exact isI.gx (isW.i1 (by assumption)) | exact isI.gc (isW.i1 (by assumption)) | exact isI.gx (isW.i2 (by assumption)) | exact isI.gc (isW.i2 (by assumption)) | exact isI.gx (isW.i3 (by assumption)) | exact isI.gc (isW.i3 (by assumption)) | exact isI.gx (isW.i4 (by assumption)) | exact isI.gc (isW.i4 (by assumption)) | exact isI.gx (isW.i5 (by assumption)) | exact isI.gc (isW.i5 (by assumption)) | exact isR.gx (by assumption) | exact isRd.gx (by assumption) | exact isSp.gx (by assumption) | exact isI.gx (isR.i (by assumption)) | exact isI.gx (isRd.i (by assumption)) | exact isI.gc (isRd.i (by assumption)) | exact isI.gx (isSp.i (by assumption)) | exact isW.gx (isR.w (by assumption)) | exact isW.gF (isR.w (by assumption)) | fail "no such object") rfl rfl (Nat.le_of_ble_eq_true rfl) (cw_ownerOf (d) hW hc (i := C 2 t) (hC t)) (fun v_54 h_54 q_54 => ?_)
          obtain ⟨rfl, rfl⟩ := q_54
          have ro := ownF_r hc (C 2 t)
          refine r_iload_n (pc := 57) dX9_lastToEnd_57 rfl ?_
          refine rj_icmp_ne (pc := 58) (tgt := 63) dX9_lastToEnd_58 (by decide) (by first | exact b01_r | exact bz_r | omega | (constructor <;> omega) | apply_assumption | (apply atF_r; assumption) | fail "no range") (by first | exact b01_r | exact bz_r | omega | (constructor <;> omega) | apply_assumption | (apply atF_r; assumption) | fail "no range") (fun c_58 => ?_) (fun c_58 => ?_)
          · refine rj_iinc (pc := 63) dX9_lastToEnd_63 (Nat.le_of_ble_eq_true rfl) rfl ?_
            dsimp only [lsSt, List.set, mLs, mEnt]
            refine r_goto (pc := 66) (tgt := 10) dX9_lastToEnd_66 (by decide) ?_
            rw [ltL, if_neg (fun g => c_58 g.2)]
            rw [show (t : Int) - 1 = (t : Int) + -1 by omega] at ih
            exact ih _ _ (by omega)
          · refine r_iload_n (pc := 61) dX9_lastToEnd_61 rfl ?_
            refine r_ireturn (pc := 62) .int dX9_lastToEnd_62 rfl (by first | rfl | assumption) ?_
            first | (exfalso; omega) | exact ⟨by rw [ltL, if_pos ⟨Or.inl ⟨by omega, c_49⟩, c_58⟩], rfl⟩ | exact ⟨by rw [ltL, if_pos ⟨Or.inr ⟨by omega, c_49⟩, c_58⟩], rfl⟩
end mg_88

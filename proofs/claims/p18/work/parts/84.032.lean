section mg_87
set_option maxHeartbeats 4000000 in
set_option maxRecDepth 100000 in
theorem L_readyAtPlace {G : mG} {l : Launch} (d : Nat) {h : mH} {w : Nat} {c : Nat → Int} {C : Nat → Nat → Int} {nm : Nat → Int64} {g : Nat → Option Nat} (hW : isW h w c C nm g) (hc : ∀ q, InR (c q)) {K : Nat} (hK : c 2 = (K : Int)) (hcapK : K ≤ 10) {i : Int} (hi : InR i) : ∀ n t : Nat, t + n = K → RUN G l (d + 3) mX9_readyAtPlace 2 [some (.ref w), some (.int (J i)), some (.int (J (t : Int)))] [] h (fun v h' => v = some (.int (J (rpL c K i n t))) ∧ h' = h) := by
  intro n
  induction n with
  | zero =>
    intro t ht
    refine r_iload_n (pc := 2) dX9_readyAtPlace_2 rfl ?_
    refine r_aload_n (pc := 3) dX9_readyAtPlace_3 rfl (by first | rfl | exact isRefV_rf _) ?_
    refine r_getf (pc := 4) dX9_readyAtPlace_4 fX9_81 (by first | assumption | exact isI.gx (by assumption) | exact isI.gc (by assumption) | exact isW.gx (by assumption) | exact isW.gF (by assumption) | exact isW.gT (by assumption) (by omega) | exact isW.gS (by assumption) (by omega) | exact isW.gK (by assumption) (by omega) | exact isW.g1 (by assumption) | exact isW.g2 (by assumption) | exact isW.g3 (by assumption) | exact isI.gx (isW.i0 (by assumption)) | exact isI.gc (isW.i0 (by assumption)) | exact isI.gx (isW.i1 (by assumption)) | exact isI.gc (isW.i1 (by assumption)) | exact isI.gx (isW.i2 (by assumption)) | exact isI.gc (isW.i2 (by assumption)) | exact isI.gx (isW.i3 (by assumption)) | exact isI.gc (isW.i3 (by assumption)) | exact isI.gx (isW.i4 (by assumption)) | exact isI.gc (isW.i4 (by assumption)) | exact isI.gx (isW.i5 (by assumption)) | exact isI.gc (isW.i5 (by assumption)) | exact isR.gx (by assumption) | exact isRd.gx (by assumption) | exact isSp.gx (by assumption) | exact isI.gx (isR.i (by assumption)) | exact isI.gx (isRd.i (by assumption)) | exact isI.gc (isRd.i (by assumption)) | exact isI.gx (isSp.i (by assumption)) | exact isW.gx (isR.w (by assumption)) | exact isW.gF (isR.w (by assumption)) | fail "no such object") (by rfl) ?_
    refine rj_icmp_ge (pc := 7) (tgt := 35) dX9_readyAtPlace_7 (by decide) (by first | exact b01_r | exact bz_r | omega | (constructor <;> omega) | apply_assumption | (apply atF_r; assumption) | fail "no range") (by first | exact b01_r | exact bz_r | omega | (constructor <;> omega) | apply_assumption | (apply atF_r; assumption) | fail "no range") (fun c_7 => ?_) (fun c_7 => ?_)
    · refine rj_bipush (pc := 35) dX9_readyAtPlace_35 (by decide +kernel) ?_
      refine r_ireturn (pc := 37) .int dX9_readyAtPlace_37 rfl (by first | rfl | assumption) ?_
      exact ⟨rfl, rfl⟩
    · exfalso; omega
  | succ n ih =>
    intro t ht
    refine r_iload_n (pc := 2) dX9_readyAtPlace_2 rfl ?_
    refine r_aload_n (pc := 3) dX9_readyAtPlace_3 rfl (by first | rfl | exact isRefV_rf _) ?_
    refine r_getf (pc := 4) dX9_readyAtPlace_4 fX9_81 (by first | assumption | exact isI.gx (by assumption) | exact isI.gc (by assumption) | exact isW.gx (by assumption) | exact isW.gF (by assumption) | exact isW.gT (by assumption) (by omega) | exact isW.gS (by assumption) (by omega) | exact isW.gK (by assumption) (by omega) | exact isW.g1 (by assumption) | exact isW.g2 (by assumption) | exact isW.g3 (by assumption) | exact isI.gx (isW.i0 (by assumption)) | exact isI.gc (isW.i0 (by assumption)) | exact isI.gx (isW.i1 (by assumption)) | exact isI.gc (isW.i1 (by assumption)) | exact isI.gx (isW.i2 (by assumption)) | exact isI.gc (isW.i2 (by assumption)) | exact isI.gx (isW.i3 (by assumption)) | exact isI.gc (isW.i3 (by assumption)) | exact isI.gx (isW.i4 (by assumption)) | exact isI.gc (isW.i4 (by assumption)) | exact isI.gx (isW.i5 (by assumption)) | exact isI.gc (isW.i5 (by assumption)) | exact isR.gx (by assumption) | exact isRd.gx (by assumption) | exact isSp.gx (by assumption) | exact isI.gx (isR.i (by assumption)) | exact isI.gx (isRd.i (by assumption)) | exact isI.gc (isRd.i (by assumption)) | exact isI.gx (isSp.i (by assumption)) | exact isW.gx (isR.w (by assumption)) | exact isW.gF (isR.w (by assumption)) | fail "no such object") (by rfl) ?_
    refine rj_icmp_ge (pc := 7) (tgt := 35) dX9_readyAtPlace_7 (by decide) (by first | exact b01_r | exact bz_r | omega | (constructor <;> omega) | apply_assumption | (apply atF_r; assumption) | fail "no range") (by first | exact b01_r | exact bz_r | omega | (constructor <;> omega) | apply_assumption | (apply atF_r; assumption) | fail "no range") (fun c_7 => ?_) (fun c_7 => ?_)
    · refine rj_bipush (pc := 35) dX9_readyAtPlace_35 (by decide +kernel) ?_
      refine r_ireturn (pc := 37) .int dX9_readyAtPlace_37 rfl (by first | rfl | assumption) ?_
      first | (exfalso; omega) | exact ⟨by rw [rpL, if_pos (⟨c_15, c_24⟩)], rfl⟩
    · refine r_aload_n (pc := 10) dX9_readyAtPlace_10 rfl (by first | rfl | exact isRefV_rf _) ?_
      refine r_iload_n (pc := 11) dX9_readyAtPlace_11 rfl ?_
      refine r_callV1 (pc := 12) dX9_readyAtPlace_12 qX9_isReady kX9_184 vX9_isReady (by first | assumption | exact isI.gx (by assumption) | exact isI.gc (by assumption) | exact isW.gx (by assumption) | exact isW.gF (by assumption) | exact isW.gT (by assumption) (by omega) | exact isW.gS (by assumption) (by omega) | exact isW.gK (by assumption) (by omega) | exact isW.g1 (by assumption) | exact isW.g2 (by assumption) | exact isW.g3 (by assumption) | exact isI.gx (isW.i0 (by assumption)) | exact isI.gc (isW.i0 (by assumption)) | exact isI.gx (isW.i1 (by assumption)) | exact isI.gc (isW.i1 (by assumption)) | exact isI.gx (isW.i2 (by assumption)) | exact isI.gc (isW.i2 (by assumption)) | exact isI.gx (isW.i3 (by assumption)) | exact isI.gc (isW.i3 (by assumption)) | exact isI.gx (isW.i4 (by assumption)) | exact isI.gc (isW.i4 (by assumption)) | exact isI.gx (isW.i5 (by assumption)) | exact isI.gc (isW.i5 (by assumption)) | exact isR.gx (by assumption) | exact isRd.gx (by assumption) | exact isSp.gx (by assumption) | exact isI.gx (isR.i (by assumption)) | exact isI.gx (isRd.i (by assumption)) | exact isI.gc (isRd.i (by assumption)) | exact isI.gx (isSp.i (by assumption)) | exact isW.gx (isR.w (by assumption)) | exact isW.gF (isR.w (by assumption)) | fail "no such object") rfl rfl (Nat.le_of_ble_eq_true rfl) (cn_isReady _ hW hc (t := t) (by omega) (by omega)) (fun v_12 h_12 q_12 => ?_)
      obtain ⟨rfl, rfl⟩ := q_12
      refine rj_if_eq (pc := 15) (tgt := 29) dX9_readyAtPlace_15 (by decide) (by first | exact b01_r | exact bz_r | omega | (constructor <;> omega) | apply_assumption | (apply atF_r; assumption) | fail "no range") (fun c_15 => ?_) (fun c_15 => ?_)
      · try simp only [b01_0, bz_0, Classical.not_not] at c_15
        refine rj_iinc (pc := 29) dX9_readyAtPlace_29 (Nat.le_of_ble_eq_true rfl) rfl ?_
        dsimp only [lsSt, List.set, mLs, mEnt]
        refine r_goto (pc := 32) (tgt := 2) dX9_readyAtPlace_32 (by decide) ?_
        have z := ih (t + 1) (by omega)
        rw [show ((t + 1 : Nat) : Int) = (t : Int) + 1 by omega] at z
        rw [rpL, if_neg (fun g => c_15 g.1)]
        exact z
      · try simp only [b01_0, bz_0, Classical.not_not] at c_15
        refine r_aload_n (pc := 18) dX9_readyAtPlace_18 rfl (by first | rfl | exact isRefV_rf _) ?_
        refine r_iload_n (pc := 19) dX9_readyAtPlace_19 rfl ?_
        refine r_callV1 (pc := 20) dX9_readyAtPlace_20 qX9_readyAhead kX9_187 vX9_readyAhead (by first | assumption | exact isI.gx (by assumption) | exact isI.gc (by assumption) | exact isW.gx (by assumption) | exact isW.gF (by assumption) | exact isW.gT (by assumption) (by omega) | exact isW.gS (by assumption) (by omega) | exact isW.gK (by assumption) (by omega) | exact isW.g1 (by assumption) | exact isW.g2 (by assumption) | exact isW.g3 (by assumption) | exact isI.gx (isW.i0 (by assumption)) | exact isI.gc (isW.i0 (by assumption)) | exact isI.gx (isW.i1 (by assumption)) | exact isI.gc (isW.i1 (by assumption)) | exact isI.gx (isW.i2 (by assumption)) | exact isI.gc (isW.i2 (by assumption)) | exact isI.gx (isW.i3 (by assumption)) | exact isI.gc (isW.i3 (by assumption)) | exact isI.gx (isW.i4 (by assumption)) | exact isI.gc (isW.i4 (by assumption)) | exact isI.gx (isW.i5 (by assumption)) | exact isI.gc (isW.i5 (by assumption)) | exact isR.gx (by assumption) | exact isRd.gx (by assumption) | exact isSp.gx (by assumption) | exact isI.gx (isR.i (by assumption)) | exact isI.gx (isRd.i (by assumption)) | exact isI.gc (isRd.i (by assumption)) | exact isI.gx (isSp.i (by assumption)) | exact isW.gx (isR.w (by assumption)) | exact isW.gF (isR.w (by assumption)) | fail "no such object") rfl rfl (Nat.le_of_ble_eq_true rfl) (cq_readyAhead _ hW hc hK hcapK (a := t) (by omega)) (fun v_20 h_20 q_20 => ?_)
        obtain ⟨rfl, rfl⟩ := q_20
        have rk := cnt_r (raB c t) K
        refine r_iload_n (pc := 23) dX9_readyAtPlace_23 rfl ?_
        refine rj_icmp_ne (pc := 24) (tgt := 29) dX9_readyAtPlace_24 (by decide) (by first | exact b01_r | exact bz_r | omega | (constructor <;> omega) | apply_assumption | (apply atF_r; assumption) | fail "no range") (by first | exact b01_r | exact bz_r | omega | (constructor <;> omega) | apply_assumption | (apply atF_r; assumption) | fail "no range") (fun c_24 => ?_) (fun c_24 => ?_)
        · refine rj_iinc (pc := 29) dX9_readyAtPlace_29 (Nat.le_of_ble_eq_true rfl) rfl ?_
          dsimp only [lsSt, List.set, mLs, mEnt]
          refine r_goto (pc := 32) (tgt := 2) dX9_readyAtPlace_32 (by decide) ?_
          have z := ih (t + 1) (by omega)
          rw [show ((t + 1 : Nat) : Int) = (t : Int) + 1 by omega] at z
          rw [rpL, if_neg (fun g => c_24 g.2)]
          exact z
        · refine r_iload_n (pc := 27) dX9_readyAtPlace_27 rfl ?_
          refine r_ireturn (pc := 28) .int dX9_readyAtPlace_28 rfl (by first | rfl | assumption) ?_
          first | (exfalso; omega) | exact ⟨by rw [rpL, if_pos (⟨c_15, c_24⟩)], rfl⟩
end mg_87

section mg_87
set_option maxHeartbeats 4000000 in
set_option maxRecDepth 100000 in
theorem L_readyAhead {G : mG} {l : Launch} (d : Nat) {h : mH} {w : Nat} {c : Nat → Int} {C : Nat → Nat → Int} {nm : Nat → Int64} {g : Nat → Option Nat} (hW : isW h w c C nm g) (hc : ∀ q, InR (c q)) {K : Nat} (hK : c 2 = (K : Int)) (hcapK : K ≤ 10) {a : Nat} (ha : a < K) : ∀ (k t : Nat) (o0 : Option Value), t + k = K → RUN G l (d + 2) mX9_readyAhead 11 [some (.ref w), some (.int (J (a : Int))), some (.ref (wK w a)), some (.int (J (cnt (raB c a) t))), some (.int (J (t : Int))), o0] [] h (fun v h' => v = some (.int (J (cnt (raB c a) K))) ∧ h' = h) := by
  intro k
  induction k with
  | zero =>
    intro t o0 ht
    refine r_iload (pc := 11) dX9_readyAhead_11 rfl ?_
    refine r_aload_n (pc := 13) dX9_readyAhead_13 rfl (by first | rfl | exact isRefV_rf _) ?_
    refine r_getf (pc := 14) dX9_readyAhead_14 fX9_81 (by first | assumption | exact isI.gx (by assumption) | exact isI.gc (by assumption) | exact isW.gx (by assumption) | exact isW.gF (by assumption) | exact isW.gT (by assumption) (by omega) | exact isW.gS (by assumption) (by omega) | exact isW.gK (by assumption) (by omega) | exact isW.g1 (by assumption) | exact isW.g2 (by assumption) | exact isW.g3 (by assumption) | exact isI.gx (isW.i0 (by assumption)) | exact isI.gc (isW.i0 (by assumption)) | exact isI.gx (isW.i1 (by assumption)) | exact isI.gc (isW.i1 (by assumption)) | exact isI.gx (isW.i2 (by assumption)) | exact isI.gc (isW.i2 (by assumption)) | exact isI.gx (isW.i3 (by assumption)) | exact isI.gc (isW.i3 (by assumption)) | exact isI.gx (isW.i4 (by assumption)) | exact isI.gc (isW.i4 (by assumption)) | exact isI.gx (isW.i5 (by assumption)) | exact isI.gc (isW.i5 (by assumption)) | exact isR.gx (by assumption) | exact isRd.gx (by assumption) | exact isSp.gx (by assumption) | exact isI.gx (isR.i (by assumption)) | exact isI.gx (isRd.i (by assumption)) | exact isI.gc (isRd.i (by assumption)) | exact isI.gx (isSp.i (by assumption)) | exact isW.gx (isR.w (by assumption)) | exact isW.gF (isR.w (by assumption)) | fail "no such object") (by rfl) ?_
    refine rj_icmp_ge (pc := 17) (tgt := 78) dX9_readyAhead_17 (by decide) (by first | exact b01_r | exact bz_r | omega | (constructor <;> omega) | apply_assumption | (apply atF_r; assumption) | fail "no range") (by first | exact b01_r | exact bz_r | omega | (constructor <;> omega) | apply_assumption | (apply atF_r; assumption) | fail "no range") (fun c_17 => ?_) (fun c_17 => ?_)
    · refine r_iload_n (pc := 78) dX9_readyAhead_78 rfl ?_
      refine r_ireturn (pc := 79) .int dX9_readyAhead_79 rfl (by first | rfl | assumption) ?_
      obtain rfl : t = K := by omega
      exact ⟨rfl, rfl⟩
    · exfalso; omega
  | succ k ih =>
    intro t o0 ht
    refine r_iload (pc := 11) dX9_readyAhead_11 rfl ?_
    refine r_aload_n (pc := 13) dX9_readyAhead_13 rfl (by first | rfl | exact isRefV_rf _) ?_
    refine r_getf (pc := 14) dX9_readyAhead_14 fX9_81 (by first | assumption | exact isI.gx (by assumption) | exact isI.gc (by assumption) | exact isW.gx (by assumption) | exact isW.gF (by assumption) | exact isW.gT (by assumption) (by omega) | exact isW.gS (by assumption) (by omega) | exact isW.gK (by assumption) (by omega) | exact isW.g1 (by assumption) | exact isW.g2 (by assumption) | exact isW.g3 (by assumption) | exact isI.gx (isW.i0 (by assumption)) | exact isI.gc (isW.i0 (by assumption)) | exact isI.gx (isW.i1 (by assumption)) | exact isI.gc (isW.i1 (by assumption)) | exact isI.gx (isW.i2 (by assumption)) | exact isI.gc (isW.i2 (by assumption)) | exact isI.gx (isW.i3 (by assumption)) | exact isI.gc (isW.i3 (by assumption)) | exact isI.gx (isW.i4 (by assumption)) | exact isI.gc (isW.i4 (by assumption)) | exact isI.gx (isW.i5 (by assumption)) | exact isI.gc (isW.i5 (by assumption)) | exact isR.gx (by assumption) | exact isRd.gx (by assumption) | exact isSp.gx (by assumption) | exact isI.gx (isR.i (by assumption)) | exact isI.gx (isRd.i (by assumption)) | exact isI.gc (isRd.i (by assumption)) | exact isI.gx (isSp.i (by assumption)) | exact isW.gx (isR.w (by assumption)) | exact isW.gF (isR.w (by assumption)) | fail "no such object") (by rfl) ?_
    refine rj_icmp_ge (pc := 17) (tgt := 78) dX9_readyAhead_17 (by decide) (by first | exact b01_r | exact bz_r | omega | (constructor <;> omega) | apply_assumption | (apply atF_r; assumption) | fail "no range") (by first | exact b01_r | exact bz_r | omega | (constructor <;> omega) | apply_assumption | (apply atF_r; assumption) | fail "no range") (fun c_17 => ?_) (fun c_17 => ?_)
    · refine r_iload_n (pc := 78) dX9_readyAhead_78 rfl ?_
      refine r_ireturn (pc := 79) .int dX9_readyAhead_79 rfl (by first | rfl | assumption) ?_
      exfalso; omega
    · refine r_aload_n (pc := 20) dX9_readyAhead_20 rfl (by first | rfl | exact isRefV_rf _) ?_
      refine r_iload (pc := 21) dX9_readyAhead_21 rfl ?_
      refine r_callV1 (pc := 23) dX9_readyAhead_23 qX9_taskAt kX9_128 vX9_taskAt (by first | assumption | exact isI.gx (by assumption) | exact isI.gc (by assumption) | exact isW.gx (by assumption) | exact isW.gF (by assumption) | exact isW.gT (by assumption) (by omega) | exact isW.gS (by assumption) (by omega) | exact isW.gK (by assumption) (by omega) | exact isW.g1 (by assumption) | exact isW.g2 (by assumption) | exact isW.g3 (by assumption) | exact isI.gx (isW.i0 (by assumption)) | exact isI.gc (isW.i0 (by assumption)) | exact isI.gx (isW.i1 (by assumption)) | exact isI.gc (isW.i1 (by assumption)) | exact isI.gx (isW.i2 (by assumption)) | exact isI.gc (isW.i2 (by assumption)) | exact isI.gx (isW.i3 (by assumption)) | exact isI.gc (isW.i3 (by assumption)) | exact isI.gx (isW.i4 (by assumption)) | exact isI.gc (isW.i4 (by assumption)) | exact isI.gx (isW.i5 (by assumption)) | exact isI.gc (isW.i5 (by assumption)) | exact isR.gx (by assumption) | exact isRd.gx (by assumption) | exact isSp.gx (by assumption) | exact isI.gx (isR.i (by assumption)) | exact isI.gx (isRd.i (by assumption)) | exact isI.gc (isRd.i (by assumption)) | exact isI.gx (isSp.i (by assumption)) | exact isW.gx (isR.w (by assumption)) | exact isW.gF (isR.w (by assumption)) | fail "no such object") rfl rfl (Nat.le_of_ble_eq_true rfl) (cw_taskAt _ hW hc (i := (t : Int)) ⟨by omega, by omega⟩) (fun v_23 h_23 q_23 => ?_)
      obtain ⟨q1_23, rfl⟩ := q_23
      · obtain rfl := tkAt_P (by omega) q1_23
        refine r_astore (pc := 26) dX9_readyAhead_26 (Nat.le_of_ble_eq_true rfl) (by first | rfl | exact isRefV_rf _) ?_
        dsimp only [lsSt, List.set, mLs, mEnt]
        refine r_aload_n (pc := 28) dX9_readyAhead_28 rfl (by first | rfl | exact isRefV_rf _) ?_
        refine r_ifnull (pc := 29) (tgt := 72) dX9_readyAhead_29 (by decide) (by first | rfl | exact isRefV_rf _) (fun c_29 => by cases c_29) (fun a_29 c_29 => ?_)
        refine r_aload (pc := 32) dX9_readyAhead_32 rfl (by first | rfl | exact isRefV_rf _) ?_
        refine r_ifnull (pc := 34) (tgt := 72) dX9_readyAhead_34 (by decide) (by first | rfl | exact isRefV_rf _) (fun c_34 => by cases c_34) (fun a_34 c_34 => ?_)
        refine r_aload (pc := 37) dX9_readyAhead_37 rfl (by first | rfl | exact isRefV_rf _) ?_
        refine r_getf (pc := 39) dX9_readyAhead_39 fX9_143 (by first | assumption | exact isI.gx (by assumption) | exact isI.gc (by assumption) | exact isW.gx (by assumption) | exact isW.gF (by assumption) | exact isW.gT (by assumption) (by omega) | exact isW.gS (by assumption) (by omega) | exact isW.gK (by assumption) (by omega) | exact isW.g1 (by assumption) | exact isW.g2 (by assumption) | exact isW.g3 (by assumption) | exact isI.gx (isW.i0 (by assumption)) | exact isI.gc (isW.i0 (by assumption)) | exact isI.gx (isW.i1 (by assumption)) | exact isI.gc (isW.i1 (by assumption)) | exact isI.gx (isW.i2 (by assumption)) | exact isI.gc (isW.i2 (by assumption)) | exact isI.gx (isW.i3 (by assumption)) | exact isI.gc (isW.i3 (by assumption)) | exact isI.gx (isW.i4 (by assumption)) | exact isI.gc (isW.i4 (by assumption)) | exact isI.gx (isW.i5 (by assumption)) | exact isI.gc (isW.i5 (by assumption)) | exact isR.gx (by assumption) | exact isRd.gx (by assumption) | exact isSp.gx (by assumption) | exact isI.gx (isR.i (by assumption)) | exact isI.gx (isRd.i (by assumption)) | exact isI.gc (isRd.i (by assumption)) | exact isI.gx (isSp.i (by assumption)) | exact isW.gx (isR.w (by assumption)) | exact isW.gF (isR.w (by assumption)) | fail "no such object") (by rfl) ?_
        refine rj_if_ne (pc := 42) (tgt := 72) dX9_readyAhead_42 (by decide) (by first | exact b01_r | exact bz_r | omega | (constructor <;> omega) | apply_assumption | (apply atF_r; assumption) | fail "no range") (fun c_42 => ?_) (fun c_42 => ?_)
        · try simp only [b01_0, bz_0, Classical.not_not] at c_42
          refine rj_iinc (pc := 72) dX9_readyAhead_72 (Nat.le_of_ble_eq_true rfl) rfl ?_
          dsimp only [lsSt, List.set, mLs, mEnt]
          refine r_goto (pc := 75) (tgt := 11) dX9_readyAhead_75 (by decide) ?_
          have e1 : ((t + 1 : Nat) : Int) = (t : Int) + 1 := by omega
          have e2 := cnt_f (p := raB c a) (n := t) (decide_eq_false (fun g => c_42 g.1))
          rw [Int.add_zero] at e2
          have z := fun o0 => ih (t + 1) o0 (by omega)
          simp only [e1, ← e2] at z
          exact z _
        · try simp only [b01_0, bz_0, Classical.not_not] at c_42
          refine r_aload (pc := 45) dX9_readyAhead_45 rfl (by first | rfl | exact isRefV_rf _) ?_
          refine r_aload_n (pc := 47) dX9_readyAhead_47 rfl (by first | rfl | exact isRefV_rf _) ?_
          refine r_callV1 (pc := 48) dX9_readyAhead_48 qX7_comesAheadOf kX9_190 vX7_comesAheadOf (by first | assumption | exact isI.gx (by assumption) | exact isI.gc (by assumption) | exact isW.gx (by assumption) | exact isW.gF (by assumption) | exact isW.gT (by assumption) (by omega) | exact isW.gS (by assumption) (by omega) | exact isW.gK (by assumption) (by omega) | exact isW.g1 (by assumption) | exact isW.g2 (by assumption) | exact isW.g3 (by assumption) | exact isI.gx (isW.i0 (by assumption)) | exact isI.gc (isW.i0 (by assumption)) | exact isI.gx (isW.i1 (by assumption)) | exact isI.gc (isW.i1 (by assumption)) | exact isI.gx (isW.i2 (by assumption)) | exact isI.gc (isW.i2 (by assumption)) | exact isI.gx (isW.i3 (by assumption)) | exact isI.gc (isW.i3 (by assumption)) | exact isI.gx (isW.i4 (by assumption)) | exact isI.gc (isW.i4 (by assumption)) | exact isI.gx (isW.i5 (by assumption)) | exact isI.gc (isW.i5 (by assumption)) | exact isR.gx (by assumption) | exact isRd.gx (by assumption) | exact isSp.gx (by assumption) | exact isI.gx (isR.i (by assumption)) | exact isI.gx (isRd.i (by assumption)) | exact isI.gc (isRd.i (by assumption)) | exact isI.gx (isSp.i (by assumption)) | exact isW.gx (isR.w (by assumption)) | exact isW.gF (isR.w (by assumption)) | fail "no such object") rfl rfl (Nat.le_of_ble_eq_true rfl) (cw_comesAheadOf _ hW hc (a := t) (b := a) (by omega) (by omega)) (fun v_48 h_48 q_48 => ?_)
          obtain ⟨rfl, rfl⟩ := q_48
          refine rj_if_ne (pc := 51) (tgt := 69) dX9_readyAhead_51 (by decide) (by first | exact b01_r | exact bz_r | omega | (constructor <;> omega) | apply_assumption | (apply atF_r; assumption) | fail "no range") (fun c_51 => ?_) (fun c_51 => ?_)
          · try simp only [b01_0, bz_0, Classical.not_not] at c_51
            refine rj_iinc (pc := 69) dX9_readyAhead_69 (Nat.le_of_ble_eq_true rfl) rfl ?_
            dsimp only [lsSt, List.set, mLs, mEnt]
            refine rj_iinc (pc := 72) dX9_readyAhead_72 (Nat.le_of_ble_eq_true rfl) rfl ?_
            dsimp only [lsSt, List.set, mLs, mEnt]
            refine r_goto (pc := 75) (tgt := 11) dX9_readyAhead_75 (by decide) ?_
            have e1 : ((t + 1 : Nat) : Int) = (t : Int) + 1 := by omega
            have e2 := cnt_t (p := raB c a) (n := t) (decide_eq_true (⟨c_42, Or.inl c_51⟩))
            have z := fun o0 => ih (t + 1) o0 (by omega)
            simp only [e1, ← e2] at z
            exact z _
          · try simp only [b01_0, bz_0, Classical.not_not] at c_51
            refine r_iload (pc := 54) dX9_readyAhead_54 rfl ?_
            refine r_iload_n (pc := 56) dX9_readyAhead_56 rfl ?_
            refine rj_icmp_ge (pc := 57) (tgt := 72) dX9_readyAhead_57 (by decide) (by first | exact b01_r | exact bz_r | omega | (constructor <;> omega) | apply_assumption | (apply atF_r; assumption) | fail "no range") (by first | exact b01_r | exact bz_r | omega | (constructor <;> omega) | apply_assumption | (apply atF_r; assumption) | fail "no range") (fun c_57 => ?_) (fun c_57 => ?_)
            · refine rj_iinc (pc := 72) dX9_readyAhead_72 (Nat.le_of_ble_eq_true rfl) rfl ?_
              dsimp only [lsSt, List.set, mLs, mEnt]
              refine r_goto (pc := 75) (tgt := 11) dX9_readyAhead_75 (by decide) ?_
              have e1 : ((t + 1 : Nat) : Int) = (t : Int) + 1 := by omega
              have e2 := cnt_f (p := raB c a) (n := t) (decide_eq_false (fun g => g.2.elim (fun z => c_51 z) (fun z => absurd z.1 (by omega))))
              rw [Int.add_zero] at e2
              have z := fun o0 => ih (t + 1) o0 (by omega)
              simp only [e1, ← e2] at z
              exact z _
            · refine r_aload_n (pc := 60) dX9_readyAhead_60 rfl (by first | rfl | exact isRefV_rf _) ?_
              refine r_aload (pc := 61) dX9_readyAhead_61 rfl (by first | rfl | exact isRefV_rf _) ?_
              refine r_callV1 (pc := 63) dX9_readyAhead_63 qX7_comesAheadOf kX9_190 vX7_comesAheadOf (by first | assumption | exact isI.gx (by assumption) | exact isI.gc (by assumption) | exact isW.gx (by assumption) | exact isW.gF (by assumption) | exact isW.gT (by assumption) (by omega) | exact isW.gS (by assumption) (by omega) | exact isW.gK (by assumption) (by omega) | exact isW.g1 (by assumption) | exact isW.g2 (by assumption) | exact isW.g3 (by assumption) | exact isI.gx (isW.i0 (by assumption)) | exact isI.gc (isW.i0 (by assumption)) | exact isI.gx (isW.i1 (by assumption)) | exact isI.gc (isW.i1 (by assumption)) | exact isI.gx (isW.i2 (by assumption)) | exact isI.gc (isW.i2 (by assumption)) | exact isI.gx (isW.i3 (by assumption)) | exact isI.gc (isW.i3 (by assumption)) | exact isI.gx (isW.i4 (by assumption)) | exact isI.gc (isW.i4 (by assumption)) | exact isI.gx (isW.i5 (by assumption)) | exact isI.gc (isW.i5 (by assumption)) | exact isR.gx (by assumption) | exact isRd.gx (by assumption) | exact isSp.gx (by assumption) | exact isI.gx (isR.i (by assumption)) | exact isI.gx (isRd.i (by assumption)) | exact isI.gc (isRd.i (by assumption)) | exact isI.gx (isSp.i (by assumption)) | exact isW.gx (isR.w (by assumption)) | exact isW.gF (isR.w (by assumption)) | fail "no such object") rfl rfl (Nat.le_of_ble_eq_true rfl) (cw_comesAheadOf _ hW hc (a := a) (b := t) (by omega) (by omega)) (fun v_63 h_63 q_63 => ?_)
              obtain ⟨rfl, rfl⟩ := q_63
              refine rj_if_ne (pc := 66) (tgt := 72) dX9_readyAhead_66 (by decide) (by first | exact b01_r | exact bz_r | omega | (constructor <;> omega) | apply_assumption | (apply atF_r; assumption) | fail "no range") (fun c_66 => ?_) (fun c_66 => ?_)
              · try simp only [b01_0, bz_0, Classical.not_not] at c_66
                refine rj_iinc (pc := 72) dX9_readyAhead_72 (Nat.le_of_ble_eq_true rfl) rfl ?_
                dsimp only [lsSt, List.set, mLs, mEnt]
                refine r_goto (pc := 75) (tgt := 11) dX9_readyAhead_75 (by decide) ?_
                have e1 : ((t + 1 : Nat) : Int) = (t : Int) + 1 := by omega
                have e2 := cnt_f (p := raB c a) (n := t) (decide_eq_false (fun g => g.2.elim (fun z => c_51 z) (fun z => z.2 c_66)))
                rw [Int.add_zero] at e2
                have z := fun o0 => ih (t + 1) o0 (by omega)
                simp only [e1, ← e2] at z
                exact z _
              · try simp only [b01_0, bz_0, Classical.not_not] at c_66
                refine rj_iinc (pc := 69) dX9_readyAhead_69 (Nat.le_of_ble_eq_true rfl) rfl ?_
                dsimp only [lsSt, List.set, mLs, mEnt]
                refine rj_iinc (pc := 72) dX9_readyAhead_72 (Nat.le_of_ble_eq_true rfl) rfl ?_
                dsimp only [lsSt, List.set, mLs, mEnt]
                refine r_goto (pc := 75) (tgt := 11) dX9_readyAhead_75 (by decide) ?_
                have e1 : ((t + 1 : Nat) : Int) = (t : Int) + 1 := by omega
                have e2 := cnt_t (p := raB c a) (n := t) (decide_eq_true (⟨c_42, Or.inr ⟨by omega, c_66⟩⟩))
                have z := fun o0 => ih (t + 1) o0 (by omega)
                simp only [e1, ← e2] at z
                exact z _
end mg_87

section mg_44
set_option maxHeartbeats 4000000 in
set_option maxRecDepth 100000 in
theorem L_readyI {G : mG} {l : Launch} (d : Nat) {h : mH} {x s : Nat} {f4 f6 f8 f9 f10 f11 f12 f13 f14 f16 f18 : Int} {m kp was pool tape pln pap rwd rw : Nat → Int}(hB : isM h x (mFs x f4 f6 f8 f9 f10 f11 f12 f13 f14 f16 f18 s) m kp was pool tape pln pap rwd rw) (hM : ∀ q, InR (m q)) {T : Nat} (hT : m 3 = (T : Int)) (hT2 : T ≤ 10) (hP : ∀ t, t < T → -99 ≤ m (1609 + 72 * t) ∧ m (1609 + 72 * t) ≤ 99) {k : Int} (hk : InR k) {Q : Option Value → mH → Prop} {i : Nat} (hi : i < T) (K : RUN G l (d + 3) mX11_ready 73 [some (.ref x), some (.int (J k)), some (.int (J (i : Int))), some (.int (J (cnt (rdB m i) T))), some (.int (J ((T : Int))))] [] h Q) : ∀ n j : Nat, j + n = T → RUN G l (d + 3) mX11_ready 23 [some (.ref x), some (.int (J k)), some (.int (J (i : Int))), some (.int (J (cnt (rdB m i) j))), some (.int (J ((j : Int))))] [] h Q := by
  have hB0 := hB
  dsimp only [mFs] at hB
  have r3 := hM 3
  intro n
  induction n with
  | zero =>
    intro j hj
    refine r_iload (pc := 23) dX11_ready_23 rfl ?_
    refine r_aload_n (pc := 25) dX11_ready_25 rfl (by first | rfl | exact isRefV_rf _) ?_
    refine rm_getf (pc := 26) dX11_ready_26 fX11_11 (by assumption) rfl ?_
    refine rj_iconst (pc := 29) dX11_ready_29 ?_
    refine rj_iald (pc := 30) (j := 3) dX11_ready_30 (by first | exact isM.g0 (by assumption) | exact isM.g3 (by assumption) | exact isM.g4 (by assumption) | exact isM.g8 (by assumption) | exact isM.g7 (by assumption) | exact isM.g6 (by assumption) | exact isM.g5 (by assumption) | exact isM.g1 (by assumption) | exact isM.g2 (by assumption)) (by first | assumption | exact b01_r | exact bz_r | omega | (constructor <;> omega) | exact hM _ | exact hPo _ | exact hTa _ | exact hRo _) (by first | assumption | exact b01_r | exact bz_r | omega | (constructor <;> omega) | exact hM _ | exact hPo _ | exact hTa _ | exact hRo _) (by first | assumption | exact b01_r | exact bz_r | omega | (constructor <;> omega) | exact hM _ | exact hPo _ | exact hTa _ | exact hRo _) rfl ?_
    refine rj_icmp_ge (pc := 31) (tgt := 73) dX11_ready_31 (by decide) (by first | assumption | exact b01_r | exact bz_r | omega | (constructor <;> omega) | exact hM _ | exact hPo _ | exact hTa _ | exact hRo _) (by first | assumption | exact b01_r | exact bz_r | omega | (constructor <;> omega) | exact hM _ | exact hPo _ | exact hTa _ | exact hRo _) (fun c_31 => ?_) (fun c_31 => ?_)
    · have e : j = T := by omega
      subst e
      exact K
    · exfalso; omega
  | succ n ih =>
    intro j hj
    refine r_iload (pc := 23) dX11_ready_23 rfl ?_
    refine r_aload_n (pc := 25) dX11_ready_25 rfl (by first | rfl | exact isRefV_rf _) ?_
    refine rm_getf (pc := 26) dX11_ready_26 fX11_11 (by assumption) rfl ?_
    refine rj_iconst (pc := 29) dX11_ready_29 ?_
    refine rj_iald (pc := 30) (j := 3) dX11_ready_30 (by first | exact isM.g0 (by assumption) | exact isM.g3 (by assumption) | exact isM.g4 (by assumption) | exact isM.g8 (by assumption) | exact isM.g7 (by assumption) | exact isM.g6 (by assumption) | exact isM.g5 (by assumption) | exact isM.g1 (by assumption) | exact isM.g2 (by assumption)) (by first | assumption | exact b01_r | exact bz_r | omega | (constructor <;> omega) | exact hM _ | exact hPo _ | exact hTa _ | exact hRo _) (by first | assumption | exact b01_r | exact bz_r | omega | (constructor <;> omega) | exact hM _ | exact hPo _ | exact hTa _ | exact hRo _) (by first | assumption | exact b01_r | exact bz_r | omega | (constructor <;> omega) | exact hM _ | exact hPo _ | exact hTa _ | exact hRo _) rfl ?_
    refine rj_icmp_ge (pc := 31) (tgt := 73) dX11_ready_31 (by decide) (by first | assumption | exact b01_r | exact bz_r | omega | (constructor <;> omega) | exact hM _ | exact hPo _ | exact hTa _ | exact hRo _) (by first | assumption | exact b01_r | exact bz_r | omega | (constructor <;> omega) | exact hM _ | exact hPo _ | exact hTa _ | exact hRo _) (fun c_31 => ?_) (fun c_31 => ?_)
    · exfalso; omega
    · refine r_iload_n (pc := 34) dX11_ready_34 rfl ?_
      refine r_aload_n (pc := 35) dX11_ready_35 rfl (by first | rfl | exact isRefV_rf _) ?_
      refine r_iload (pc := 36) dX11_ready_36 rfl ?_
      refine r_callV1 (pc := 38) dX11_ready_38 qX11_isReady kX11_183 vX11_isReady (by exact isM.gx (by assumption)) rfl rfl (Nat.le_of_ble_eq_true rfl) (m_isReady (d + 1) hB0 hM (by omega) (by omega)) (fun v_38 h_38 q_38 => ?_)
      obtain ⟨rfl, rfl⟩ := q_38
      refine rj_if_eq (pc := 41) (tgt := 64) dX11_ready_41 (by decide) (by first | assumption | exact b01_r | exact bz_r | omega | (constructor <;> omega) | exact hM _ | exact hPo _ | exact hTa _ | exact hRo _) (fun c_41 => ?_) (fun c_41 => ?_)
      · try simp only [b01_0, bz_0, Classical.not_not] at c_41
        refine rj_iconst (pc := 64) dX11_ready_64 ?_
        refine rj_iadd (pc := 65) dX11_ready_65 ?_
        refine r_istore_n (pc := 66) dX11_ready_66 (Nat.le_of_ble_eq_true rfl) ?_
        dsimp only [lsSt, List.set, mLs, mEnt]
        refine rj_iinc (pc := 67) dX11_ready_67 (Nat.le_of_ble_eq_true rfl) rfl ?_
        dsimp only [lsSt, List.set, mLs, mEnt]
        refine r_goto (pc := 70) (tgt := 23) dX11_ready_70 (by decide) ?_
        have z := ih (j + 1) (by omega)
        rw [← cnt_f (p := rdB m i) (n := j) (by unfold rdB; rw [show readyB m j = false from by simp only [readyB, decide_eq_false_iff_not]; rw [n_ready] at c_41; exact c_41]; rfl)] at z
        exact z
      · try simp only [b01_0, bz_0, Classical.not_not] at c_41
        refine r_iload (pc := 44) dX11_ready_44 rfl ?_
        refine r_iload_n (pc := 46) dX11_ready_46 rfl ?_
        refine rj_icmp_eq (pc := 47) (tgt := 64) dX11_ready_47 (by decide) (by first | assumption | exact b01_r | exact bz_r | omega | (constructor <;> omega) | exact hM _ | exact hPo _ | exact hTa _ | exact hRo _) (by first | assumption | exact b01_r | exact bz_r | omega | (constructor <;> omega) | exact hM _ | exact hPo _ | exact hTa _ | exact hRo _) (fun c_47 => ?_) (fun c_47 => ?_)
        · refine rj_iconst (pc := 64) dX11_ready_64 ?_
          refine rj_iadd (pc := 65) dX11_ready_65 ?_
          refine r_istore_n (pc := 66) dX11_ready_66 (Nat.le_of_ble_eq_true rfl) ?_
          dsimp only [lsSt, List.set, mLs, mEnt]
          refine rj_iinc (pc := 67) dX11_ready_67 (Nat.le_of_ble_eq_true rfl) rfl ?_
          dsimp only [lsSt, List.set, mLs, mEnt]
          refine r_goto (pc := 70) (tgt := 23) dX11_ready_70 (by decide) ?_
          have z := ih (j + 1) (by omega)
          rw [← cnt_f (p := rdB m i) (n := j) (by unfold rdB; rw [decide_eq_false (fun g : ¬ j = i => g (by omega))]; simp)] at z
          exact z
        · refine r_aload_n (pc := 50) dX11_ready_50 rfl (by first | rfl | exact isRefV_rf _) ?_
          refine r_iload (pc := 51) dX11_ready_51 rfl ?_
          refine r_iload_n (pc := 53) dX11_ready_53 rfl ?_
          refine r_callV2 (pc := 54) dX11_ready_54 qX11_isAhead kX11_201 vX11_isAhead (by exact isM.gx (by assumption)) rfl rfl (Nat.le_of_ble_eq_true rfl) (m_isAhead (d + 1) hB0 hM (a := j) (b := i) (by omega) (by omega) (hP j (by omega)) (hP i (by omega))) (fun v_54 h_54 q_54 => ?_)
          obtain ⟨rfl, rfl⟩ := q_54
          refine rj_if_eq (pc := 57) (tgt := 64) dX11_ready_57 (by decide) (by first | assumption | exact b01_r | exact bz_r | omega | (constructor <;> omega) | exact hM _ | exact hPo _ | exact hTa _ | exact hRo _) (fun c_57 => ?_) (fun c_57 => ?_)
          · try simp only [b01_0, bz_0, Classical.not_not] at c_57
            refine rj_iconst (pc := 64) dX11_ready_64 ?_
            refine rj_iadd (pc := 65) dX11_ready_65 ?_
            refine r_istore_n (pc := 66) dX11_ready_66 (Nat.le_of_ble_eq_true rfl) ?_
            dsimp only [lsSt, List.set, mLs, mEnt]
            refine rj_iinc (pc := 67) dX11_ready_67 (Nat.le_of_ble_eq_true rfl) rfl ?_
            dsimp only [lsSt, List.set, mLs, mEnt]
            refine r_goto (pc := 70) (tgt := 23) dX11_ready_70 (by decide) ?_
            have z := ih (j + 1) (by omega)
            rw [← cnt_f (p := rdB m i) (n := j) (by unfold rdB; rw [decide_eq_false c_57]; simp)] at z
            exact z
          · try simp only [b01_0, bz_0, Classical.not_not] at c_57
            refine rj_iconst (pc := 60) dX11_ready_60 ?_
            refine r_goto (pc := 61) (tgt := 65) dX11_ready_61 (by decide) ?_
            refine rj_iadd (pc := 65) dX11_ready_65 ?_
            refine r_istore_n (pc := 66) dX11_ready_66 (Nat.le_of_ble_eq_true rfl) ?_
            dsimp only [lsSt, List.set, mLs, mEnt]
            refine rj_iinc (pc := 67) dX11_ready_67 (Nat.le_of_ble_eq_true rfl) rfl ?_
            dsimp only [lsSt, List.set, mLs, mEnt]
            refine r_goto (pc := 70) (tgt := 23) dX11_ready_70 (by decide) ?_
            have z := ih (j + 1) (by omega)
            rw [← cnt_t (p := rdB m i) (n := j) (by unfold rdB; rw [show readyB m j = true from by simp only [readyB, decide_eq_true_eq]; rw [n_ready] at c_41; exact c_41, decide_eq_true (show ¬ j = i by omega), decide_eq_true c_57]; rfl)] at z
            exact z
end mg_44

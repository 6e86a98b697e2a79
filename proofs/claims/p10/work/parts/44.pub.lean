/-! ===== contracts of the reference: ready, pooled ===== -/
def rdB (m : Nat → Int) (i j : Nat) : Bool := readyB m j && (decide (¬ j = i) && decide (aheadP m j i))
def rdO (m : Nat → Int) (T : Nat) (k : Int) : Nat → Nat → Int
  | 0, _ => -5
  | n + 1, i => if readyB m i = true ∧ cnt (rdB m i) T = k then (i : Int) else rdO m T k n (i + 1)
def readyV (m : Nat → Int) (T : Nat) (k : Int) : Int := if k < 0 then -1 else rdO m T k T 0
set_option maxHeartbeats 4000000 in
set_option maxRecDepth 100000 in
theorem L_readyI {G : mG} {l : Launch} (d : Nat) {h : mH} {x s : Nat} {f4 f6 f8 f9 f10 f11 f12 f13 f14 f16 f18 : Int} {m kp was pool tape pln pap rwd rw : Nat → Int}(hB : isM h x (mFs x f4 f6 f8 f9 f10 f11 f12 f13 f14 f16 f18 s) m kp was pool tape pln pap rwd rw) (hM : ∀ q, InR (m q)) {T : Nat} (hT : m 3 = (T : Int)) (hT2 : T ≤ 10) (hP : ∀ t, t < T → -99 ≤ m (1609 + 72 * t) ∧ m (1609 + 72 * t) ≤ 99) {k : Int} (hk : InR k) {Q : Option Value → mH → Prop} {i : Nat} (hi : i < T) (K : RUN G l (d + 3) mX11_ready 73 [some (.ref x), some (.int (J k)), some (.int (J (i : Int))), some (.int (J (cnt (rdB m i) T))), some (.int (J ((T : Int))))] [] h Q) : ∀ n j : Nat, j + n = T → RUN G l (d + 3) mX11_ready 23 [some (.ref x), some (.int (J k)), some (.int (J (i : Int))), some (.int (J (cnt (rdB m i) j))), some (.int (J ((j : Int))))] [] h Q := by
  have hB0 := hB
  dsimp only [mFs] at hB
  have r3 := hM 3
  intro n
  induction n with
  | zero =>
    intro j hj
    refine r_iload (pc := 23) dX11_ready_23 rfl ?_
    refine r_aload_n (pc := 25) dX11_ready_25 rfl (by first | rfl | exact isRefV_rf _) ?_
    refine rm_getf (pc := 26) dX11_ready_26 fX11_11 (by assumption) rfl ?_
    refine rj_iconst (pc := 29) dX11_ready_29 ?_
    refine rj_iald (pc := 30) (j := 3) dX11_ready_30 (by first | exact isM.g0 (by assumption) | exact isM.g3 (by assumption) | exact isM.g4 (by assumption) | exact isM.g8 (by assumption) | exact isM.g7 (by assumption) | exact isM.g6 (by assumption) | exact isM.g5 (by assumption) | exact isM.g1 (by assumption) | exact isM.g2 (by assumption)) (by first | assumption | exact b01_r | exact bz_r | omega | (constructor <;> omega) | exact hM _ | exact hPo _ | exact hTa _ | exact hRo _) (by first | assumption | exact b01_r | exact bz_r | omega | (constructor <;> omega) | exact hM _ | exact hPo _ | exact hTa _ | exact hRo _) (by first | assumption | exact b01_r | exact bz_r | omega | (constructor <;> omega) | exact hM _ | exact hPo _ | exact hTa _ | exact hRo _) rfl ?_
    refine rj_icmp_ge (pc := 31) (tgt := 73) dX11_ready_31 (by decide) (by first | assumption | exact b01_r | exact bz_r | omega | (constructor <;> omega) | exact hM _ | exact hPo _ | exact hTa _ | exact hRo _) (by first | assumption | exact b01_r | exact bz_r | omega | (constructor <;> omega) | exact hM _ | exact hPo _ | exact hTa _ | exact hRo _) (fun c_31 => ?_) (fun c_31 => ?_)
    · have e : j = T := by omega
      subst e
      exact K
    · exfalso; omega
  | succ n ih =>
    intro j hj
    refine r_iload (pc := 23) dX11_ready_23 rfl ?_
    refine r_aload_n (pc := 25) dX11_ready_25 rfl (by first | rfl | exact isRefV_rf _) ?_
    refine rm_getf (pc := 26) dX11_ready_26 fX11_11 (by assumption) rfl ?_
    refine rj_iconst (pc := 29) dX11_ready_29 ?_
    refine rj_iald (pc := 30) (j := 3) dX11_ready_30 (by first | exact isM.g0 (by assumption) | exact isM.g3 (by assumption) | exact isM.g4 (by assumption) | exact isM.g8 (by assumption) | exact isM.g7 (by assumption) | exact isM.g6 (by assumption) | exact isM.g5 (by assumption) | exact isM.g1 (by assumption) | exact isM.g2 (by assumption)) (by first | assumption | exact b01_r | exact bz_r | omega | (constructor <;> omega) | exact hM _ | exact hPo _ | exact hTa _ | exact hRo _) (by first | assumption | exact b01_r | exact bz_r | omega | (constructor <;> omega) | exact hM _ | exact hPo _ | exact hTa _ | exact hRo _) (by first | assumption | exact b01_r | exact bz_r | omega | (constructor <;> omega) | exact hM _ | exact hPo _ | exact hTa _ | exact hRo _) rfl ?_
    refine rj_icmp_ge (pc := 31) (tgt := 73) dX11_ready_31 (by decide) (by first | assumption | exact b01_r | exact bz_r | omega | (constructor <;> omega) | exact hM _ | exact hPo _ | exact hTa _ | exact hRo _) (by first | assumption | exact b01_r | exact bz_r | omega | (constructor <;> omega) | exact hM _ | exact hPo _ | exact hTa _ | exact hRo _) (fun c_31 => ?_) (fun c_31 => ?_)
    · exfalso; omega
    · refine r_iload_n (pc := 34) dX11_ready_34 rfl ?_
      refine r_aload_n (pc := 35) dX11_ready_35 rfl (by first | rfl | exact isRefV_rf _) ?_
      refine r_iload (pc := 36) dX11_ready_36 rfl ?_
      refine r_callV1 (pc := 38) dX11_ready_38 qX11_isReady kX11_183 vX11_isReady (by exact isM.gx (by assumption)) rfl rfl (Nat.le_of_ble_eq_true rfl) (m_isReady (d + 1) hB0 hM (by omega) (by omega)) (fun v_38 h_38 q_38 => ?_)
      obtain ⟨rfl, rfl⟩ := q_38
      refine rj_if_eq (pc := 41) (tgt := 64) dX11_ready_41 (by decide) (by first | assumption | exact b01_r | exact bz_r | omega | (constructor <;> omega) | exact hM _ | exact hPo _ | exact hTa _ | exact hRo _) (fun c_41 => ?_) (fun c_41 => ?_)
      · try simp only [b01_0, bz_0, Classical.not_not] at c_41
        refine rj_iconst (pc := 64) dX11_ready_64 ?_
        refine rj_iadd (pc := 65) dX11_ready_65 ?_
        refine r_istore_n (pc := 66) dX11_ready_66 (Nat.le_of_ble_eq_true rfl) ?_
        dsimp only [lsSt, List.set, mLs, mEnt]
        refine rj_iinc (pc := 67) dX11_ready_67 (Nat.le_of_ble_eq_true rfl) rfl ?_
        dsimp only [lsSt, List.set, mLs, mEnt]
        refine r_goto (pc := 70) (tgt := 23) dX11_ready_70 (by decide) ?_
        have z := ih (j + 1) (by omega)
        rw [← cnt_f (p := rdB m i) (n := j) (by unfold rdB; rw [show readyB m j = false from by simp only [readyB, decide_eq_false_iff_not]; rw [n_ready] at c_41; exact c_41]; rfl)] at z
        exact z
      · try simp only [b01_0, bz_0, Classical.not_not] at c_41
        refine r_iload (pc := 44) dX11_ready_44 rfl ?_
        refine r_iload_n (pc := 46) dX11_ready_46 rfl ?_
        refine rj_icmp_eq (pc := 47) (tgt := 64) dX11_ready_47 (by decide) (by first | assumption | exact b01_r | exact bz_r | omega | (constructor <;> omega) | exact hM _ | exact hPo _ | exact hTa _ | exact hRo _) (by first | assumption | exact b01_r | exact bz_r | omega | (constructor <;> omega) | exact hM _ | exact hPo _ | exact hTa _ | exact hRo _) (fun c_47 => ?_) (fun c_47 => ?_)
        · refine rj_iconst (pc := 64) dX11_ready_64 ?_
          refine rj_iadd (pc := 65) dX11_ready_65 ?_
          refine r_istore_n (pc := 66) dX11_ready_66 (Nat.le_of_ble_eq_true rfl) ?_
          dsimp only [lsSt, List.set, mLs, mEnt]
          refine rj_iinc (pc := 67) dX11_ready_67 (Nat.le_of_ble_eq_true rfl) rfl ?_
          dsimp only [lsSt, List.set, mLs, mEnt]
          refine r_goto (pc := 70) (tgt := 23) dX11_ready_70 (by decide) ?_
          have z := ih (j + 1) (by omega)
          rw [← cnt_f (p := rdB m i) (n := j) (by unfold rdB; rw [decide_eq_false (fun g : ¬ j = i => g (by omega))]; simp)] at z
          exact z
        · refine r_aload_n (pc := 50) dX11_ready_50 rfl (by first | rfl | exact isRefV_rf _) ?_
          refine r_iload (pc := 51) dX11_ready_51 rfl ?_
          refine r_iload_n (pc := 53) dX11_ready_53 rfl ?_
          refine r_callV2 (pc := 54) dX11_ready_54 qX11_isAhead kX11_201 vX11_isAhead (by exact isM.gx (by assumption)) rfl rfl (Nat.le_of_ble_eq_true rfl) (m_isAhead (d + 1) hB0 hM (a := j) (b := i) (by omega) (by omega) (hP j (by omega)) (hP i (by omega))) (fun v_54 h_54 q_54 => ?_)
          obtain ⟨rfl, rfl⟩ := q_54
          refine rj_if_eq (pc := 57) (tgt := 64) dX11_ready_57 (by decide) (by first | assumption | exact b01_r | exact bz_r | omega | (constructor <;> omega) | exact hM _ | exact hPo _ | exact hTa _ | exact hRo _) (fun c_57 => ?_) (fun c_57 => ?_)
          · try simp only [b01_0, bz_0, Classical.not_not] at c_57
            refine rj_iconst (pc := 64) dX11_ready_64 ?_
            refine rj_iadd (pc := 65) dX11_ready_65 ?_
            refine r_istore_n (pc := 66) dX11_ready_66 (Nat.le_of_ble_eq_true rfl) ?_
            dsimp only [lsSt, List.set, mLs, mEnt]
            refine rj_iinc (pc := 67) dX11_ready_67 (Nat.le_of_ble_eq_true rfl) rfl ?_
            dsimp only [lsSt, List.set, mLs, mEnt]
            refine r_goto (pc := 70) (tgt := 23) dX11_ready_70 (by decide) ?_
            have z := ih (j + 1) (by omega)
            rw [← cnt_f (p := rdB m i) (n := j) (by unfold rdB; rw [decide_eq_false c_57]; simp)] at z
            exact z
          · try simp only [b01_0, bz_0, Classical.not_not] at c_57
            refine rj_iconst (pc := 60) dX11_ready_60 ?_
            refine r_goto (pc := 61) (tgt := 65) dX11_ready_61 (by decide) ?_
            refine rj_iadd (pc := 65) dX11_ready_65 ?_
            refine r_istore_n (pc := 66) dX11_ready_66 (Nat.le_of_ble_eq_true rfl) ?_
            dsimp only [lsSt, List.set, mLs, mEnt]
            refine rj_iinc (pc := 67) dX11_ready_67 (Nat.le_of_ble_eq_true rfl) rfl ?_
            dsimp only [lsSt, List.set, mLs, mEnt]
            refine r_goto (pc := 70) (tgt := 23) dX11_ready_70 (by decide) ?_
            have z := ih (j + 1) (by omega)
            rw [← cnt_t (p := rdB m i) (n := j) (by unfold rdB; rw [show readyB m j = true from by simp only [readyB, decide_eq_true_eq]; rw [n_ready] at c_41; exact c_41, decide_eq_true (show ¬ j = i by omega), decide_eq_true c_57]; rfl)] at z
            exact z
set_option maxHeartbeats 4000000 in
set_option maxRecDepth 100000 in
theorem L_ready {G : mG} {l : Launch} (d : Nat) {h : mH} {x s : Nat} {f4 f6 f8 f9 f10 f11 f12 f13 f14 f16 f18 : Int} {m kp was pool tape pln pap rwd rw : Nat → Int}(hB : isM h x (mFs x f4 f6 f8 f9 f10 f11 f12 f13 f14 f16 f18 s) m kp was pool tape pln pap rwd rw) (hM : ∀ q, InR (m q)) {T : Nat} (hT : m 3 = (T : Int)) (hT2 : T ≤ 10) (hP : ∀ t, t < T → -99 ≤ m (1609 + 72 * t) ∧ m (1609 + 72 * t) ≤ 99) {k : Int} (hk : InR k) : ∀ (n i : Nat) (e1 e2 : Option Value), i + n = T → RUN G l (d + 3) mX11_ready 8 [some (.ref x), some (.int (J k)), some (.int (J (i : Int))), e1, e2] [] h (fun v h' => v = some (.int (J (rdO m T k n i))) ∧ h' = h) := by
  have hB0 := hB
  dsimp only [mFs] at hB
  have r3 := hM 3
  intro n
  induction n with
  | zero =>
    intro i e1 e2 hi
    refine r_iload_n (pc := 8) dX11_ready_8 rfl ?_
    refine r_aload_n (pc := 9) dX11_ready_9 rfl (by first | rfl | exact isRefV_rf _) ?_
    refine rm_getf (pc := 10) dX11_ready_10 fX11_11 (by assumption) rfl ?_
    refine rj_iconst (pc := 13) dX11_ready_13 ?_
    refine rj_iald (pc := 14) (j := 3) dX11_ready_14 (by first | exact isM.g0 (by assumption) | exact isM.g3 (by assumption) | exact isM.g4 (by assumption) | exact isM.g8 (by assumption) | exact isM.g7 (by assumption) | exact isM.g6 (by assumption) | exact isM.g5 (by assumption) | exact isM.g1 (by assumption) | exact isM.g2 (by assumption)) (by first | assumption | exact b01_r | exact bz_r | omega | (constructor <;> omega) | exact hM _ | exact hPo _ | exact hTa _ | exact hRo _) (by first | assumption | exact b01_r | exact bz_r | omega | (constructor <;> omega) | exact hM _ | exact hPo _ | exact hTa _ | exact hRo _) (by first | assumption | exact b01_r | exact bz_r | omega | (constructor <;> omega) | exact hM _ | exact hPo _ | exact hTa _ | exact hRo _) rfl ?_
    refine rj_icmp_ge (pc := 15) (tgt := 94) dX11_ready_15 (by decide) (by first | assumption | exact b01_r | exact bz_r | omega | (constructor <;> omega) | exact hM _ | exact hPo _ | exact hTa _ | exact hRo _) (by first | assumption | exact b01_r | exact bz_r | omega | (constructor <;> omega) | exact hM _ | exact hPo _ | exact hTa _ | exact hRo _) (fun c_15 => ?_) (fun c_15 => ?_)
    · refine rj_bipush (pc := 94) dX11_ready_94 (by decide +kernel) ?_
      refine r_ireturn (pc := 96) .int dX11_ready_96 rfl (by first | rfl | assumption) ?_
      exact ⟨rfl, rfl⟩
    · exfalso; omega
  | succ n ih =>
    intro i e1 e2 hi
    have rc := cnt_r (rdB m i) T
    refine r_iload_n (pc := 8) dX11_ready_8 rfl ?_
    refine r_aload_n (pc := 9) dX11_ready_9 rfl (by first | rfl | exact isRefV_rf _) ?_
    refine rm_getf (pc := 10) dX11_ready_10 fX11_11 (by assumption) rfl ?_
    refine rj_iconst (pc := 13) dX11_ready_13 ?_
    refine rj_iald (pc := 14) (j := 3) dX11_ready_14 (by first | exact isM.g0 (by assumption) | exact isM.g3 (by assumption) | exact isM.g4 (by assumption) | exact isM.g8 (by assumption) | exact isM.g7 (by assumption) | exact isM.g6 (by assumption) | exact isM.g5 (by assumption) | exact isM.g1 (by assumption) | exact isM.g2 (by assumption)) (by first | assumption | exact b01_r | exact bz_r | omega | (constructor <;> omega) | exact hM _ | exact hPo _ | exact hTa _ | exact hRo _) (by first | assumption | exact b01_r | exact bz_r | omega | (constructor <;> omega) | exact hM _ | exact hPo _ | exact hTa _ | exact hRo _) (by first | assumption | exact b01_r | exact bz_r | omega | (constructor <;> omega) | exact hM _ | exact hPo _ | exact hTa _ | exact hRo _) rfl ?_
    refine rj_icmp_ge (pc := 15) (tgt := 94) dX11_ready_15 (by decide) (by first | assumption | exact b01_r | exact bz_r | omega | (constructor <;> omega) | exact hM _ | exact hPo _ | exact hTa _ | exact hRo _) (by first | assumption | exact b01_r | exact bz_r | omega | (constructor <;> omega) | exact hM _ | exact hPo _ | exact hTa _ | exact hRo _) (fun c_15 => ?_) (fun c_15 => ?_)
    · refine rj_bipush (pc := 94) dX11_ready_94 (by decide +kernel) ?_
      refine r_ireturn (pc := 96) .int dX11_ready_96 rfl (by first | rfl | assumption) ?_
      exfalso; omega
    · refine rj_iconst (pc := 18) dX11_ready_18 ?_
      refine r_istore_n (pc := 19) dX11_ready_19 (Nat.le_of_ble_eq_true rfl) ?_
      dsimp only [lsSt, List.set, mLs, mEnt]
      refine rj_iconst (pc := 20) dX11_ready_20 ?_
      refine r_istore (pc := 21) dX11_ready_21 (Nat.le_of_ble_eq_true rfl) ?_
      dsimp only [lsSt, List.set, mLs, mEnt]
      have K : RUN G l (d + 3) mX11_ready 73 [some (.ref x), some (.int (J k)), some (.int (J (i : Int))), some (.int (J (cnt (rdB m i) T))), some (.int (J ((T : Int))))] [] h (fun v h' => v = some (.int (J (rdO m T k (n + 1) i))) ∧ h' = h) := by
            refine r_aload_n (pc := 73) dX11_ready_73 rfl (by first | rfl | exact isRefV_rf _) ?_
            refine r_iload_n (pc := 74) dX11_ready_74 rfl ?_
            refine r_callV1 (pc := 75) dX11_ready_75 qX11_isReady kX11_183 vX11_isReady (by exact isM.gx (by assumption)) rfl rfl (Nat.le_of_ble_eq_true rfl) (m_isReady (d + 1) hB0 hM (by omega) (by omega)) (fun v_75 h_75 q_75 => ?_)
            obtain ⟨rfl, rfl⟩ := q_75
            refine rj_if_eq (pc := 78) (tgt := 88) dX11_ready_78 (by decide) (by first | assumption | exact b01_r | exact bz_r | omega | (constructor <;> omega) | exact hM _ | exact hPo _ | exact hTa _ | exact hRo _) (fun c_78 => ?_) (fun c_78 => ?_)
            · try simp only [b01_0, bz_0, Classical.not_not] at c_78
              refine rj_iinc (pc := 88) dX11_ready_88 (Nat.le_of_ble_eq_true rfl) rfl ?_
              dsimp only [lsSt, List.set, mLs, mEnt]
              refine r_goto (pc := 91) (tgt := 8) dX11_ready_91 (by decide) ?_
              have z := ih (i + 1) (some (.int (J (cnt (rdB m i) T)))) (some (.int (J (T : Int)))) (by omega)
              rw [rdO, if_neg (fun g => c_78 (by have := g.1; simp only [readyB, decide_eq_true_eq] at this; rw [n_ready]; exact this))]
              exact z
            · try simp only [b01_0, bz_0, Classical.not_not] at c_78
              refine r_iload_n (pc := 81) dX11_ready_81 rfl ?_
              refine r_iload_n (pc := 82) dX11_ready_82 rfl ?_
              refine rj_icmp_ne (pc := 83) (tgt := 88) dX11_ready_83 (by decide) (by first | assumption | exact b01_r | exact bz_r | omega | (constructor <;> omega) | exact hM _ | exact hPo _ | exact hTa _ | exact hRo _) (by first | assumption | exact b01_r | exact bz_r | omega | (constructor <;> omega) | exact hM _ | exact hPo _ | exact hTa _ | exact hRo _) (fun c_83 => ?_) (fun c_83 => ?_)
              · refine rj_iinc (pc := 88) dX11_ready_88 (Nat.le_of_ble_eq_true rfl) rfl ?_
                dsimp only [lsSt, List.set, mLs, mEnt]
                refine r_goto (pc := 91) (tgt := 8) dX11_ready_91 (by decide) ?_
                have z := ih (i + 1) (some (.int (J (cnt (rdB m i) T)))) (some (.int (J (T : Int)))) (by omega)
                rw [rdO, if_neg (fun g => c_83 g.2)]
                exact z
              · refine r_iload_n (pc := 86) dX11_ready_86 rfl ?_
                refine r_ireturn (pc := 87) .int dX11_ready_87 rfl (by first | rfl | assumption) ?_
                exact ⟨by rw [rdO, if_pos ⟨by simp only [readyB, decide_eq_true_eq]; rw [n_ready] at c_78; exact c_78, c_83⟩], rfl⟩
      exact L_readyI d hB0 hM hT hT2 hP hk (i := i) (by omega) K T 0 (by omega)
set_option maxHeartbeats 4000000 in
set_option maxRecDepth 100000 in
theorem m_ready {G : mG} {l : Launch} (d : Nat) {h : mH} {x s : Nat} {f4 f6 f8 f9 f10 f11 f12 f13 f14 f16 f18 : Int} {m kp was pool tape pln pap rwd rw : Nat → Int}(hB : isM h x (mFs x f4 f6 f8 f9 f10 f11 f12 f13 f14 f16 f18 s) m kp was pool tape pln pap rwd rw) (hM : ∀ q, InR (m q)) {T : Nat} (hT : m 3 = (T : Int)) (hT2 : T ≤ 10) (hP : ∀ t, t < T → -99 ≤ m (1609 + 72 * t) ∧ m (1609 + 72 * t) ≤ 99) {k : Int} (hk : InR k) : RUNM G l (d + 3) mX11_ready [.ref x, .int (J k)] h (fun v h' => v = some (.int (J (readyV m T k))) ∧ h' = h) := by
  have hB0 := hB
  dsimp only [mFs] at hB
  refine RUNM.of (by decide +kernel) (Nat.le_of_ble_eq_true rfl) ?_
  refine r_iload_n (pc := 0) dX11_ready_0 rfl ?_
  refine rj_if_ge (pc := 1) (tgt := 6) dX11_ready_1 (by decide) (by first | assumption | exact b01_r | exact bz_r | omega | (constructor <;> omega) | exact hM _ | exact hPo _ | exact hTa _ | exact hRo _) (fun c_1 => ?_) (fun c_1 => ?_)
  · refine rj_iconst (pc := 6) dX11_ready_6 ?_
    refine r_istore_n (pc := 7) dX11_ready_7 (Nat.le_of_ble_eq_true rfl) ?_
    dsimp only [lsSt, List.set, mLs, mEnt]
    rw [show readyV m T k = rdO m T k T 0 by unfold readyV; rw [if_neg (by omega)]]
    exact L_ready d hB0 hM hT hT2 hP hk T 0 _ _ (by omega)
  · refine rj_iconst (pc := 4) dX11_ready_4 ?_
    refine r_ireturn (pc := 5) .int dX11_ready_5 rfl (by first | rfl | assumption) ?_
    exact ⟨by unfold readyV; rw [if_pos (by omega)], rfl⟩
def plF (pool tape : Nat → Int) (p a k : Nat) : Nat → Int := fun q => if p ≤ q ∧ q < p + k then tape (a + (q - p)) else pool q
theorem plF_0 (pool tape : Nat → Int) (p a : Nat) : plF pool tape p a 0 = pool := by funext q; unfold plF; rw [if_neg (by omega)]
theorem plF_s (pool tape : Nat → Int) (p a k : Nat) : updI (plF pool tape p a k) (p + k) (tape (a + k)) = plF pool tape p a (k + 1) := by
  funext q
  unfold updI plF
  by_cases h : q = p + k
  · rw [if_pos h, if_pos (by omega), h, show a + (p + k - p) = a + k by omega]
  · rw [if_neg h]
    by_cases h2 : p ≤ q ∧ q < p + k
    · rw [if_pos h2, if_pos (by omega)]
    · rw [if_neg h2, if_neg (by omega)]
def pooledP (pool tape : Nat → Int) (p a b : Nat) : Nat → Int := updI (plF pool tape p a (b - a)) (p + (b - a)) 0
set_option maxHeartbeats 4000000 in
set_option maxRecDepth 100000 in
theorem L_pooled {G : mG} {l : Launch} (d : Nat) {x s : Nat} {f4 f6 f8 f9 f10 f11 f12 f13 f14 f16 f18 : Int} {m kp was pool tape pln pap rwd rw : Nat → Int} {a b p : Nat} (hTa : ∀ q, InR (tape q)) (hab : a ≤ b) (hb : b ≤ 120) (hp : p + (b - a) < 12342) (h8 : m 8 = (p : Int)) : ∀ (j k : Nat) (h : mH), isM h x (mFs x f4 f6 f8 f9 f10 f11 f12 f13 f14 f16 f18 s) m kp was (plF pool tape p a k) tape pln pap rwd rw → a + k + j = b → RUN G l d mX11_pooled 11 [some (.ref x), some (.int (J (a : Int))), some (.int (J (b : Int))), some (.int (J (p : Int))), some (.int (J ((a + k : Nat) : Int)))] [] h (fun v h' => v = some (.int (J (p : Int))) ∧ isM h' x (mFs x f4 f6 f8 f9 f10 f11 f12 f13 f14 f16 f18 s) (updI m 8 ((p : Int) + (b - a : Nat) + 1)) kp was (pooledP pool tape p a b) tape pln pap rwd rw ∧ Same (mBlk x) h h') := by
  intro j
  induction j with
  | zero =>
    intro k h hB hk
    dsimp only [mFs] at hB
    have ek : k = b - a := by omega
    refine r_iload (pc := 11) dX11_pooled_11 rfl ?_
    refine r_iload_n (pc := 13) dX11_pooled_13 rfl ?_
    refine rj_icmp_ge (pc := 14) (tgt := 41) dX11_pooled_14 (by decide) (by first | assumption | exact b01_r | exact bz_r | omega | (constructor <;> omega) | exact hM _ | exact hPo _ | exact hTa _ | exact hRo _) (by first | assumption | exact b01_r | exact bz_r | omega | (constructor <;> omega) | exact hM _ | exact hPo _ | exact hTa _ | exact hRo _) (fun c_14 => ?_) (fun c_14 => ?_)
    · refine r_aload_n (pc := 41) dX11_pooled_41 rfl (by first | rfl | exact isRefV_rf _) ?_
      refine rm_getf (pc := 42) dX11_pooled_42 fX11_21 (by assumption) rfl ?_
      refine r_iload_n (pc := 45) dX11_pooled_45 rfl ?_
      refine r_iload_n (pc := 46) dX11_pooled_46 rfl ?_
      refine rj_iadd (pc := 47) dX11_pooled_47 ?_
      refine r_iload_n (pc := 48) dX11_pooled_48 rfl ?_
      refine rj_isub (pc := 49) dX11_pooled_49 ?_
      refine rj_iconst (pc := 50) dX11_pooled_50 ?_
      first | refine rm_iast3 (pc := 51) (j := p + (b - a)) dX11_pooled_51 (by assumption) (by first | assumption | exact b01_r | exact bz_r | omega | (constructor <;> omega) | exact hM _ | exact hPo _ | exact hTa _ | exact hRo _) (by first | assumption | exact b01_r | exact bz_r | omega | (constructor <;> omega) | exact hM _ | exact hPo _ | exact hTa _ | exact hRo _) (by first | assumption | exact b01_r | exact bz_r | omega | (constructor <;> omega) | exact hM _ | exact hPo _ | exact hTa _ | exact hRo _) (by omega) (fun h_51 hB_51 hS_51 => ?_)
      refine r_aload_n (pc := 52) dX11_pooled_52 rfl (by first | rfl | exact isRefV_rf _) ?_
      refine rm_getf (pc := 53) dX11_pooled_53 fX11_11 (by assumption) rfl ?_
      refine rj_bipush (pc := 56) dX11_pooled_56 (by decide +kernel) ?_
      refine r_dup2 (pc := 58) dX11_pooled_58 rfl rfl ?_
      refine rj_iald (pc := 59) (j := 8) dX11_pooled_59 (by first | exact isM.g0 (by assumption) | exact isM.g3 (by assumption) | exact isM.g4 (by assumption) | exact isM.g8 (by assumption) | exact isM.g7 (by assumption) | exact isM.g6 (by assumption) | exact isM.g5 (by assumption) | exact isM.g1 (by assumption) | exact isM.g2 (by assumption)) (by first | assumption | exact b01_r | exact bz_r | omega | (constructor <;> omega) | exact hM _ | exact hPo _ | exact hTa _ | exact hRo _) (by first | assumption | exact b01_r | exact bz_r | omega | (constructor <;> omega) | exact hM _ | exact hPo _ | exact hTa _ | exact hRo _) (by first | assumption | exact b01_r | exact bz_r | omega | (constructor <;> omega) | exact hM _ | exact hPo _ | exact hTa _ | exact hRo _) (by omega) ?_
      refine r_iload_n (pc := 60) dX11_pooled_60 rfl ?_
      refine r_iload_n (pc := 61) dX11_pooled_61 rfl ?_
      refine rj_isub (pc := 62) dX11_pooled_62 ?_
      refine rj_iconst (pc := 63) dX11_pooled_63 ?_
      refine rj_iadd (pc := 64) dX11_pooled_64 ?_
      refine rj_iadd (pc := 65) dX11_pooled_65 ?_
      first | refine rm_iast0 (pc := 66) (j := 8) dX11_pooled_66 (by assumption) (by first | assumption | exact b01_r | exact bz_r | omega | (constructor <;> omega) | exact hM _ | exact hPo _ | exact hTa _ | exact hRo _) (by first | assumption | exact b01_r | exact bz_r | omega | (constructor <;> omega) | exact hM _ | exact hPo _ | exact hTa _ | exact hRo _) (by first | assumption | exact b01_r | exact bz_r | omega | (constructor <;> omega) | exact hM _ | exact hPo _ | exact hTa _ | exact hRo _) (by omega) (fun h_66 hB_66 hS_66 => ?_)
      refine r_iload_n (pc := 67) dX11_pooled_67 rfl ?_
      refine r_ireturn (pc := 68) .int dX11_pooled_68 rfl (by first | rfl | assumption) ?_
      subst ek
      rw [h8, show (p : Int) + ((b : Int) - (a : Int) + 1) = (p : Int) + (b - a : Nat) + 1 by omega] at hB_66
      exact ⟨rfl, hB_66, hS_51.trans hS_66⟩
    · exfalso; omega
  | succ j ih =>
    intro k h hB hk
    dsimp only [mFs] at hB
    refine r_iload (pc := 11) dX11_pooled_11 rfl ?_
    refine r_iload_n (pc := 13) dX11_pooled_13 rfl ?_
    refine rj_icmp_ge (pc := 14) (tgt := 41) dX11_pooled_14 (by decide) (by first | assumption | exact b01_r | exact bz_r | omega | (constructor <;> omega) | exact hM _ | exact hPo _ | exact hTa _ | exact hRo _) (by first | assumption | exact b01_r | exact bz_r | omega | (constructor <;> omega) | exact hM _ | exact hPo _ | exact hTa _ | exact hRo _) (fun c_14 => ?_) (fun c_14 => ?_)
    · refine r_aload_n (pc := 41) dX11_pooled_41 rfl (by first | rfl | exact isRefV_rf _) ?_
      refine rm_getf (pc := 42) dX11_pooled_42 fX11_21 (by assumption) rfl ?_
      refine r_iload_n (pc := 45) dX11_pooled_45 rfl ?_
      refine r_iload_n (pc := 46) dX11_pooled_46 rfl ?_
      refine rj_iadd (pc := 47) dX11_pooled_47 ?_
      refine r_iload_n (pc := 48) dX11_pooled_48 rfl ?_
      refine rj_isub (pc := 49) dX11_pooled_49 ?_
      refine rj_iconst (pc := 50) dX11_pooled_50 ?_
      first | refine rm_iast3 (pc := 51) (j := p + (b - a)) dX11_pooled_51 (by assumption) (by first | assumption | exact b01_r | exact bz_r | omega | (constructor <;> omega) | exact hM _ | exact hPo _ | exact hTa _ | exact hRo _) (by first | assumption | exact b01_r | exact bz_r | omega | (constructor <;> omega) | exact hM _ | exact hPo _ | exact hTa _ | exact hRo _) (by first | assumption | exact b01_r | exact bz_r | omega | (constructor <;> omega) | exact hM _ | exact hPo _ | exact hTa _ | exact hRo _) (by omega) (fun h_51 hB_51 hS_51 => ?_)
      refine r_aload_n (pc := 52) dX11_pooled_52 rfl (by first | rfl | exact isRefV_rf _) ?_
      refine rm_getf (pc := 53) dX11_pooled_53 fX11_11 (by assumption) rfl ?_
      refine rj_bipush (pc := 56) dX11_pooled_56 (by decide +kernel) ?_
      refine r_dup2 (pc := 58) dX11_pooled_58 rfl rfl ?_
      refine rj_iald (pc := 59) (j := 8) dX11_pooled_59 (by first | exact isM.g0 (by assumption) | exact isM.g3 (by assumption) | exact isM.g4 (by assumption) | exact isM.g8 (by assumption) | exact isM.g7 (by assumption) | exact isM.g6 (by assumption) | exact isM.g5 (by assumption) | exact isM.g1 (by assumption) | exact isM.g2 (by assumption)) (by first | assumption | exact b01_r | exact bz_r | omega | (constructor <;> omega) | exact hM _ | exact hPo _ | exact hTa _ | exact hRo _) (by first | assumption | exact b01_r | exact bz_r | omega | (constructor <;> omega) | exact hM _ | exact hPo _ | exact hTa _ | exact hRo _) (by first | assumption | exact b01_r | exact bz_r | omega | (constructor <;> omega) | exact hM _ | exact hPo _ | exact hTa _ | exact hRo _) (by omega) ?_
      refine r_iload_n (pc := 60) dX11_pooled_60 rfl ?_
      refine r_iload_n (pc := 61) dX11_pooled_61 rfl ?_
      refine rj_isub (pc := 62) dX11_pooled_62 ?_
      refine rj_iconst (pc := 63) dX11_pooled_63 ?_
      refine rj_iadd (pc := 64) dX11_pooled_64 ?_
      refine rj_iadd (pc := 65) dX11_pooled_65 ?_
      first | refine rm_iast0 (pc := 66) (j := 8) dX11_pooled_66 (by assumption) (by first | assumption | exact b01_r | exact bz_r | omega | (constructor <;> omega) | exact hM _ | exact hPo _ | exact hTa _ | exact hRo _) (by first | assumption | exact b01_r | exact bz_r | omega | (constructor <;> omega) | exact hM _ | exact hPo _ | exact hTa _ | exact hRo _) (by first | assumption | exact b01_r | exact bz_r | omega | (constructor <;> omega) | exact hM _ | exact hPo _ | exact hTa _ | exact hRo _) (by omega) (fun h_66 hB_66 hS_66 => ?_)
      refine r_iload_n (pc := 67) dX11_pooled_67 rfl ?_
      refine r_ireturn (pc := 68) .int dX11_pooled_68 rfl (by first | rfl | assumption) ?_
      exfalso; omega
    · refine r_aload_n (pc := 17) dX11_pooled_17 rfl (by first | rfl | exact isRefV_rf _) ?_
      refine rm_getf (pc := 18) dX11_pooled_18 fX11_21 (by assumption) rfl ?_
      refine r_iload_n (pc := 21) dX11_pooled_21 rfl ?_
      refine r_iload (pc := 22) dX11_pooled_22 rfl ?_
      refine rj_iadd (pc := 24) dX11_pooled_24 ?_
      refine r_iload_n (pc := 25) dX11_pooled_25 rfl ?_
      refine rj_isub (pc := 26) dX11_pooled_26 ?_
      refine r_aload_n (pc := 27) dX11_pooled_27 rfl (by first | rfl | exact isRefV_rf _) ?_
      refine rm_getf (pc := 28) dX11_pooled_28 fX11_24 (by assumption) rfl ?_
      refine r_iload (pc := 31) dX11_pooled_31 rfl ?_
      refine rj_iald (pc := 33) (j := a + k) dX11_pooled_33 (by first | exact isM.g0 (by assumption) | exact isM.g3 (by assumption) | exact isM.g4 (by assumption) | exact isM.g8 (by assumption) | exact isM.g7 (by assumption) | exact isM.g6 (by assumption) | exact isM.g5 (by assumption) | exact isM.g1 (by assumption) | exact isM.g2 (by assumption)) (by first | assumption | exact b01_r | exact bz_r | omega | (constructor <;> omega) | exact hM _ | exact hPo _ | exact hTa _ | exact hRo _) (by first | assumption | exact b01_r | exact bz_r | omega | (constructor <;> omega) | exact hM _ | exact hPo _ | exact hTa _ | exact hRo _) (by first | assumption | exact b01_r | exact bz_r | omega | (constructor <;> omega) | exact hM _ | exact hPo _ | exact hTa _ | exact hRo _) (by omega) ?_
      first | refine rm_iast3 (pc := 34) (j := p + k) dX11_pooled_34 (by assumption) (by first | assumption | exact b01_r | exact bz_r | omega | (constructor <;> omega) | exact hM _ | exact hPo _ | exact hTa _ | exact hRo _) (by first | assumption | exact b01_r | exact bz_r | omega | (constructor <;> omega) | exact hM _ | exact hPo _ | exact hTa _ | exact hRo _) (by first | assumption | exact b01_r | exact bz_r | omega | (constructor <;> omega) | exact hM _ | exact hPo _ | exact hTa _ | exact hRo _) (by omega) (fun h_34 hB_34 hS_34 => ?_)
      rw [plF_s] at hB_34
      refine rj_iinc (pc := 35) dX11_pooled_35 (Nat.le_of_ble_eq_true rfl) rfl ?_
      dsimp only [lsSt, List.set, mLs, mEnt]
      refine r_goto (pc := 38) (tgt := 11) dX11_pooled_38 (by decide) ?_
      have z := ih (k + 1) h_34 hB_34 (by omega)
      exact z.mono (fun v h' g => ⟨g.1, g.2.1, hS_34.trans g.2.2⟩)
set_option maxHeartbeats 4000000 in
set_option maxRecDepth 100000 in
theorem m_pooled {G : mG} {l : Launch} (d : Nat) {h : mH} {x s : Nat} {f4 f6 f8 f9 f10 f11 f12 f13 f14 f16 f18 : Int} {m kp was pool tape pln pap rwd rw : Nat → Int}(hB : isM h x (mFs x f4 f6 f8 f9 f10 f11 f12 f13 f14 f16 f18 s) m kp was pool tape pln pap rwd rw) {a b p : Nat} (hTa : ∀ q, InR (tape q)) (hab : a ≤ b) (hb : b ≤ 120) (hp : p + (b - a) < 12342) (h8 : m 8 = (p : Int)) : RUNM G l (d) mX11_pooled [.ref x, .int (J (a : Int)), .int (J (b : Int))] h (fun v h' => v = some (.int (J (p : Int))) ∧ isM h' x (mFs x f4 f6 f8 f9 f10 f11 f12 f13 f14 f16 f18 s) (updI m 8 ((p : Int) + (b - a : Nat) + 1)) kp was (pooledP pool tape p a b) tape pln pap rwd rw ∧ Same (mBlk x) h h') := by
  dsimp only [mFs] at hB
  refine RUNM.of (by decide +kernel) (Nat.le_of_ble_eq_true rfl) ?_
  refine r_aload_n (pc := 0) dX11_pooled_0 rfl (by first | rfl | exact isRefV_rf _) ?_
  refine rm_getf (pc := 1) dX11_pooled_1 fX11_11 (by assumption) rfl ?_
  refine rj_bipush (pc := 4) dX11_pooled_4 (by decide +kernel) ?_
  refine rj_iald (pc := 6) (j := 8) dX11_pooled_6 (by first | exact isM.g0 (by assumption) | exact isM.g3 (by assumption) | exact isM.g4 (by assumption) | exact isM.g8 (by assumption) | exact isM.g7 (by assumption) | exact isM.g6 (by assumption) | exact isM.g5 (by assumption) | exact isM.g1 (by assumption) | exact isM.g2 (by assumption)) (by first | assumption | exact b01_r | exact bz_r | omega | (constructor <;> omega) | exact hM _ | exact hPo _ | exact hTa _ | exact hRo _) (by first | assumption | exact b01_r | exact bz_r | omega | (constructor <;> omega) | exact hM _ | exact hPo _ | exact hTa _ | exact hRo _) (by first | assumption | exact b01_r | exact bz_r | omega | (constructor <;> omega) | exact hM _ | exact hPo _ | exact hTa _ | exact hRo _) rfl ?_
  rw [h8]
  refine r_istore_n (pc := 7) dX11_pooled_7 (Nat.le_of_ble_eq_true rfl) ?_
  dsimp only [lsSt, List.set, mLs, mEnt]
  refine r_iload_n (pc := 8) dX11_pooled_8 rfl ?_
  refine r_istore (pc := 9) dX11_pooled_9 (Nat.le_of_ble_eq_true rfl) ?_
  dsimp only [lsSt, List.set, mLs, mEnt]
  exact L_pooled d hTa hab hb hp h8 (b - a) 0 h (by rw [plF_0]; exact hB) (by omega)

section mg_26
set_option maxHeartbeats 4000000 in
set_option maxRecDepth 100000 in
theorem L_steps {G : mG} {l : Launch} {x s : Nat} {f4 f6 f9 f14 f16 f18 : Int} {m kp was pool tape pln pap rwd rw sr : Nat → Int} (hT : txOk s sr pool tape f9) {w : Int} {it : Bool} {st : PS → Bool × PS} (hup : psUp f9 st) {D : Nat} (hSt : ∀ (q : PS) (h : mH), isM h x (mFs x f4 f6 q.1 f9 q.2.1 q.2.2.1 q.2.2.2.1 q.2.2.2.2 f14 f16 f18 s) m kp was pool tape pln pap rwd rw → psOk f9 q → RUNM G l D mX11_isStepRead [.ref x, .int (J w), .int (J (bz it)), .int (J 0)] h (fun v h' => v = some (.int (J (bz (st q).1))) ∧ isM h' x (mFs x f4 f6 ((st q).2).1 f9 ((st q).2).2.1 ((st q).2).2.2.1 ((st q).2).2.2.2.1 ((st q).2).2.2.2.2 f14 f16 f18 s) m kp was pool tape pln pap rwd rw ∧ Same (mBlk x) h h')) : ∀ (k : Nat) (n : Int) (r : Bool × PS) (h : mH), isM h x (mFs x f4 f6 r.2.1 f9 r.2.2.1 r.2.2.2.1 r.2.2.2.2.1 r.2.2.2.2.2 f14 f16 f18 s) m kp was pool tape pln pap rwd rw → psOk f9 r.2 → f9 - r.2.1 < k → RUN G l (D + 1) mX11_isStepsRead 11 [some (.ref x), some (.int (J w)), some (.int (J (bz it))), some (.int (J (bz r.1))), some (.int (J n))] [] h (fun v h' => v = some (.int (J (bz (setN (stepsL sr f9 st k n r)).1))) ∧ isM h' x (mFs x f4 f6 ((setN (stepsL sr f9 st k n r)).2).1 f9 ((setN (stepsL sr f9 st k n r)).2).2.1 ((setN (stepsL sr f9 st k n r)).2).2.2.1 ((setN (stepsL sr f9 st k n r)).2).2.2.2.1 ((setN (stepsL sr f9 st k n r)).2).2.2.2.2 f14 f16 f18 s) m kp was pool tape pln pap rwd rw ∧ Same (mBlk x) h h') := by
  obtain ⟨hsx, hl0, hby⟩ := id hT
  intro k
  induction k with
  | zero =>
    intro n r h hB hq hk
    have hB0 := hB
    dsimp only [mFs] at hB
    obtain ⟨hq1, hq2, hq3, hq4, hq5, hq6, hq7, hq8⟩ := id hq
    have hh := here_r hT r.2.1
    exfalso; omega
  | succ k ih =>
    intro n r h hB hq hk
    have hB0 := hB
    dsimp only [mFs] at hB
    obtain ⟨hq1, hq2, hq3, hq4, hq5, hq6, hq7, hq8⟩ := id hq
    have hh := here_r hT r.2.1
    refine r_iload_n (pc := 11) dX11_isStepsRead_11 rfl ?_
    refine rj_if_eq (pc := 12) (tgt := 48) dX11_isStepsRead_12 (by decide) (by first | assumption | exact b01_r | exact bz_r | omega | (constructor <;> omega) | exact hM _ | exact hPo _ | exact hTa _ | exact hRo _) (fun c_12 => ?_) (fun c_12 => ?_)
    · try simp only [b01_0, bz_0, Classical.not_not] at c_12
      refine r_aload_n (pc := 48) dX11_isStepsRead_48 rfl (by first | rfl | exact isRefV_rf _) ?_
      refine r_iload (pc := 49) dX11_isStepsRead_49 rfl ?_
      refine rm_putf (pc := 51) dX11_isStepsRead_51 fX11_112 (by assumption) rfl rfl (Nat.le_of_ble_eq_true rfl) (fun h_51 hB_51 hS_51 => ?_)
      dsimp only [List.set, mFs] at hB_51
      refine r_iload_n (pc := 54) dX11_isStepsRead_54 rfl ?_
      refine r_ireturn (pc := 55) .boolean dX11_isStepsRead_55 rfl (by first | exact nar_J0 | exact nar_J1 | exact nar_b01 | exact nar_bz) ?_
      have e : stepsL sr f9 st (k + 1) n r = (r, n) := by unfold stepsL; rw [if_neg (fun g => c_12 g.1)]
      rw [e]
      exact ⟨rfl, hB_51, hS_51⟩
    · try simp only [b01_0, bz_0, Classical.not_not] at c_12
      refine r_aload_n (pc := 15) dX11_isStepsRead_15 rfl (by first | rfl | exact isRefV_rf _) ?_
      refine r_callV0 (pc := 16) dX11_isStepsRead_16 qX11_here kX11_74 vX11_here (by exact isM.gx (by assumption)) rfl rfl (Nat.le_of_ble_eq_true rfl) (m_here (q := r.2) D hB0 hT hq) (fun v_16 h_16 q_16 => ?_)
      obtain ⟨rfl, rfl⟩ := q_16
      refine rj_bipush (pc := 19) dX11_isStepsRead_19 (by decide +kernel) ?_
      refine rj_icmp_ne (pc := 21) (tgt := 48) dX11_isStepsRead_21 (by decide) (by first | assumption | exact b01_r | exact bz_r | omega | (constructor <;> omega) | exact hM _ | exact hPo _ | exact hTa _ | exact hRo _) (by first | assumption | exact b01_r | exact bz_r | omega | (constructor <;> omega) | exact hM _ | exact hPo _ | exact hTa _ | exact hRo _) (fun c_21 => ?_) (fun c_21 => ?_)
      · refine r_aload_n (pc := 48) dX11_isStepsRead_48 rfl (by first | rfl | exact isRefV_rf _) ?_
        refine r_iload (pc := 49) dX11_isStepsRead_49 rfl ?_
        refine rm_putf (pc := 51) dX11_isStepsRead_51 fX11_112 (by assumption) rfl rfl (Nat.le_of_ble_eq_true rfl) (fun h_51 hB_51 hS_51 => ?_)
        dsimp only [List.set, mFs] at hB_51
        refine r_iload_n (pc := 54) dX11_isStepsRead_54 rfl ?_
        refine r_ireturn (pc := 55) .boolean dX11_isStepsRead_55 rfl (by first | exact nar_J0 | exact nar_J1 | exact nar_b01 | exact nar_bz) ?_
        have e : stepsL sr f9 st (k + 1) n r = (r, n) := by unfold stepsL; rw [if_neg (fun g => c_21 g.2)]
        rw [e]
        exact ⟨rfl, hB_51, hS_51⟩
      · have hl := here_lt (sr := sr) (len := f9) (a := r.2.1) (by omega)
        refine r_aload_n (pc := 24) dX11_isStepsRead_24 rfl (by first | rfl | exact isRefV_rf _) ?_
        refine r_dup (pc := 25) dX11_isStepsRead_25 (by first | rfl | (cases ‹Option Nat› <;> rfl)) ?_
        refine rm_getf (pc := 26) dX11_isStepsRead_26 fX11_65 (by assumption) rfl ?_
        refine rj_iconst (pc := 29) dX11_isStepsRead_29 ?_
        refine rj_iadd (pc := 30) dX11_isStepsRead_30 ?_
        refine rm_putf (pc := 31) dX11_isStepsRead_31 fX11_65 (by assumption) rfl rfl (Nat.le_of_ble_eq_true rfl) (fun h_31 hB_31 hS_31 => ?_)
        dsimp only [List.set, mFs] at hB_31
        refine rj_iinc (pc := 34) dX11_isStepsRead_34 (Nat.le_of_ble_eq_true rfl) rfl ?_
        dsimp only [lsSt, List.set, mLs, mEnt]
        refine r_aload_n (pc := 37) dX11_isStepsRead_37 rfl (by first | rfl | exact isRefV_rf _) ?_
        refine r_iload_n (pc := 38) dX11_isStepsRead_38 rfl ?_
        refine r_iload_n (pc := 39) dX11_isStepsRead_39 rfl ?_
        refine rj_iconst (pc := 40) dX11_isStepsRead_40 ?_
        refine r_callV3 (pc := 41) dX11_isStepsRead_41 qX11_isStepRead kX11_108 vX11_isStepRead (by exact isM.gx (by assumption)) rfl rfl (Nat.le_of_ble_eq_true rfl) (hSt (advF r.2) _ hB_31 (adv_ok hq hl)) (fun v_41 h_41 q_41 => ?_)
        obtain ⟨rfl, hB_41, hS_41⟩ := q_41
        refine r_istore_n (pc := 44) dX11_isStepsRead_44 (Nat.le_of_ble_eq_true rfl) ?_
        dsimp only [lsSt, List.set, mLs, mEnt]
        refine r_goto (pc := 45) (tgt := 11) dX11_isStepsRead_45 (by decide) ?_
        have z := ih (n + 1) (st (advF r.2)) _ hB_41 (hup _ (adv_ok hq hl)).1 (by have := (hup _ (adv_ok hq hl)).2; have e : (advF r.2).1 = r.2.1 + 1 := rfl; omega)
        rw [show stepsL sr f9 st (k + 1) n r = stepsL sr f9 st k (n + 1) (st (advF r.2)) by rw [stepsL, if_pos ⟨c_12, c_21⟩]]
        exact z.mono (fun v h' g => ⟨g.1, g.2.1, (hS_31.trans hS_41).trans g.2.2⟩)
end mg_26

section mg_25
set_option maxHeartbeats 4000000 in
set_option maxRecDepth 100000 in
theorem m_isTakeRead {G : mG} {l : Launch} (d : Nat) {h : mH} {x s : Nat} {f4 f6 f9 f14 f16 f18 : Int} {q : PS} {m kp was pool tape pln pap rwd rw sr : Nat → Int} (hB : isM h x (mFs x f4 f6 q.1 f9 q.2.1 q.2.2.1 q.2.2.2.1 q.2.2.2.2 f14 f16 f18 s) m kp was pool tape pln pap rwd rw) (hT : txOk s sr pool tape f9) (hq : psOk f9 q) {w : Int} (hw0 : 0 ≤ w) (hw : w ≤ 3) {steps : PS → Bool × PS} (hst : ∀ q, psOk f9 q → psOk f9 (steps q).2) {e : Nat} (hSt : w ≤ 2 → ∀ (q : PS) (h : mH), isM h x (mFs x f4 f6 q.1 f9 q.2.1 q.2.2.1 q.2.2.2.1 q.2.2.2.2 f14 f16 f18 s) m kp was pool tape pln pap rwd rw → psOk f9 q → RUNM G l (e + d + 2) mX11_isStepsRead [.ref x, .int (J (w + 1)), .int (J 0)] h (fun v h' => v = some (.int (J (bz (steps q).1))) ∧ isM h' x (mFs x f4 f6 ((steps q).2).1 f9 ((steps q).2).2.1 ((steps q).2).2.2.1 ((steps q).2).2.2.2.1 ((steps q).2).2.2.2.2 f14 f16 f18 s) m kp was pool tape pln pap rwd rw ∧ Same (mBlk x) h h')) : RUNM G l (e + d + 3) mX11_isTakeRead [.ref x, .int (J w)] h (fun v h' => v = some (.int (J (bz (takeG sr f9 steps w q).1))) ∧ isM h' x (mFs x f4 f6 ((takeG sr f9 steps w q).2).1 f9 ((takeG sr f9 steps w q).2).2.1 ((takeG sr f9 steps w q).2).2.2.1 ((takeG sr f9 steps w q).2).2.2.2.1 ((takeG sr f9 steps w q).2).2.2.2.2 f14 f16 f18 s) m kp was pool tape pln pap rwd rw ∧ Same (mBlk x) h h') := by
  dsimp only [mFs] at hB
  refine RUNM.of (by decide +kernel) (Nat.le_of_ble_eq_true rfl) ?_
  have hB0 := hB
  obtain ⟨hq1, hq2, hq3, hq4, hq5, hq6, hq7, hq8⟩ := id hq
  obtain ⟨hs, hl0, hby⟩ := id hT
  refine r_aload_n (pc := 0) dX11_isTakeRead_0 rfl (by first | rfl | exact isRefV_rf _) ?_
  refine r_callV0 (pc := 1) dX11_isTakeRead_1 qX11_isName kX11_88 vX11_isName (by exact isM.gx (by assumption)) rfl rfl (Nat.le_of_ble_eq_true rfl) (l_name (e + d) hB0 hT hq) (fun v_1 h_1 q_1 => ?_)
  obtain ⟨rfl, hB_1, hS_1⟩ := q_1
  refine rj_if_ne (pc := 4) (tgt := 9) dX11_isTakeRead_4 (by decide) (by first | assumption | exact b01_r | exact bz_r | omega | (constructor <;> omega) | exact hM _ | exact hPo _ | exact hTa _ | exact hRo _) (fun c_4 => ?_) (fun c_4 => ?_)
  · try simp only [b01_0, bz_0, Classical.not_not] at c_4
    have hh := here_r hT (aR sr f9 q).2.1
    refine r_aload_n (pc := 9) dX11_isTakeRead_9 rfl (by first | rfl | exact isRefV_rf _) ?_
    refine r_callV0 (pc := 10) dX11_isTakeRead_10 qX11_here kX11_74 vX11_here (by exact isM.gx (by assumption)) rfl rfl (Nat.le_of_ble_eq_true rfl) (m_here (e + d + 2) hB_1 hT (aR_ok hq)) (fun v_10 h_10 q_10 => ?_)
    obtain ⟨rfl, rfl⟩ := q_10
    refine rj_bipush (pc := 13) dX11_isTakeRead_13 (by decide +kernel) ?_
    refine rj_icmp_eq (pc := 15) (tgt := 20) dX11_isTakeRead_15 (by decide) (by first | assumption | exact b01_r | exact bz_r | omega | (constructor <;> omega) | exact hM _ | exact hPo _ | exact hTa _ | exact hRo _) (by first | assumption | exact b01_r | exact bz_r | omega | (constructor <;> omega) | exact hM _ | exact hPo _ | exact hTa _ | exact hRo _) (fun c_15 => ?_) (fun c_15 => ?_)
    · refine r_iload_n (pc := 20) dX11_isTakeRead_20 rfl ?_
      refine rj_iconst (pc := 21) dX11_isTakeRead_21 ?_
      refine rj_icmp_le (pc := 22) (tgt := 34) dX11_isTakeRead_22 (by decide) (by first | assumption | exact b01_r | exact bz_r | omega | (constructor <;> omega) | exact hM _ | exact hPo _ | exact hTa _ | exact hRo _) (by first | assumption | exact b01_r | exact bz_r | omega | (constructor <;> omega) | exact hM _ | exact hPo _ | exact hTa _ | exact hRo _) (fun c_22 => ?_) (fun c_22 => ?_)
      · have hl1 := here_lt (sr := sr) (len := f9) (a := (aR sr f9 q).2.1) (by omega)
        refine r_aload_n (pc := 34) dX11_isTakeRead_34 rfl (by first | rfl | exact isRefV_rf _) ?_
        refine r_dup (pc := 35) dX11_isTakeRead_35 (by first | rfl | (cases ‹Option Nat› <;> rfl)) ?_
        refine rm_getf (pc := 36) dX11_isTakeRead_36 fX11_65 (by assumption) rfl ?_
        refine rj_iconst (pc := 39) dX11_isTakeRead_39 ?_
        refine rj_iadd (pc := 40) dX11_isTakeRead_40 ?_
        refine rm_putf (pc := 41) dX11_isTakeRead_41 fX11_65 (by assumption) rfl rfl (Nat.le_of_ble_eq_true rfl) (fun h_41 hB_41 hS_41 => ?_)
        dsimp only [List.set, mFs] at hB_41
        refine r_aload_n (pc := 44) dX11_isTakeRead_44 rfl (by first | rfl | exact isRefV_rf _) ?_
        refine r_iload_n (pc := 45) dX11_isTakeRead_45 rfl ?_
        refine rj_iconst (pc := 46) dX11_isTakeRead_46 ?_
        refine rj_iadd (pc := 47) dX11_isTakeRead_47 ?_
        refine rj_iconst (pc := 48) dX11_isTakeRead_48 ?_
        refine r_callV2 (pc := 49) dX11_isTakeRead_49 qX11_isStepsRead kX11_92 vX11_isStepsRead (by exact isM.gx (by assumption)) rfl rfl (Nat.le_of_ble_eq_true rfl) (hSt c_22 (advF (aR sr f9 q).2) _ hB_41 (adv_ok (aR_ok hq) hl1)) (fun v_49 h_49 q_49 => ?_)
        obtain ⟨rfl, hB_49, hS_49⟩ := q_49
        refine rj_if_eq (pc := 52) (tgt := 68) dX11_isTakeRead_52 (by decide) (by first | assumption | exact b01_r | exact bz_r | omega | (constructor <;> omega) | exact hM _ | exact hPo _ | exact hTa _ | exact hRo _) (fun c_52 => ?_) (fun c_52 => ?_)
        · try simp only [b01_0, bz_0, Classical.not_not] at c_52
          refine rj_iconst (pc := 68) dX11_isTakeRead_68 ?_
          refine r_ireturn (pc := 69) .boolean dX11_isTakeRead_69 rfl (by first | exact nar_J0 | exact nar_J1 | exact nar_b01 | exact nar_bz) ?_
          first
          | exact ⟨by unfold takeG; rw [andR_t c_4, if_pos c_15, if_neg (by omega), andR_f c_52, bz_f c_52], by unfold takeG; rw [andR_t c_4, if_pos c_15, if_neg (by omega), andR_f c_52]; exact hB_49, (hS_1.trans hS_41).trans hS_49⟩
          | exact ⟨by unfold takeG; rw [andR_t c_4, if_pos c_15, if_neg (by omega), andR_t c_52, bz_f c_61], by unfold takeG; rw [andR_t c_4, if_pos c_15, if_neg (by omega), andR_t c_52]; exact hB_58, ((hS_1.trans hS_41).trans hS_49).trans hS_58⟩
          | exact ⟨by unfold takeG; rw [andR_t c_4, if_pos c_15, if_neg (by omega), andR_t c_52, bz_t c_61], by unfold takeG; rw [andR_t c_4, if_pos c_15, if_neg (by omega), andR_t c_52]; exact hB_58, ((hS_1.trans hS_41).trans hS_49).trans hS_58⟩
        · try simp only [b01_0, bz_0, Classical.not_not] at c_52
          refine r_aload_n (pc := 55) dX11_isTakeRead_55 rfl (by first | rfl | exact isRefV_rf _) ?_
          refine rj_bipush (pc := 56) dX11_isTakeRead_56 (by decide +kernel) ?_
          refine r_callV1 (pc := 58) dX11_isTakeRead_58 qX11_isSign kX11_96 vX11_isSign (by exact isM.gx (by assumption)) rfl rfl (Nat.le_of_ble_eq_true rfl) (l_sign (e + d + 1) hB_49 hT (hst _ (adv_ok (aR_ok hq) hl1)) (by decide)) (fun v_58 h_58 q_58 => ?_)
          obtain ⟨rfl, hB_58, hS_58⟩ := q_58
          refine rj_if_eq (pc := 61) (tgt := 68) dX11_isTakeRead_61 (by decide) (by first | assumption | exact b01_r | exact bz_r | omega | (constructor <;> omega) | exact hM _ | exact hPo _ | exact hTa _ | exact hRo _) (fun c_61 => ?_) (fun c_61 => ?_)
          · try simp only [b01_0, bz_0, Classical.not_not] at c_61
            refine rj_iconst (pc := 68) dX11_isTakeRead_68 ?_
            refine r_ireturn (pc := 69) .boolean dX11_isTakeRead_69 rfl (by first | exact nar_J0 | exact nar_J1 | exact nar_b01 | exact nar_bz) ?_
            first
            | exact ⟨by unfold takeG; rw [andR_t c_4, if_pos c_15, if_neg (by omega), andR_f c_52, bz_f c_52], by unfold takeG; rw [andR_t c_4, if_pos c_15, if_neg (by omega), andR_f c_52]; exact hB_49, (hS_1.trans hS_41).trans hS_49⟩
            | exact ⟨by unfold takeG; rw [andR_t c_4, if_pos c_15, if_neg (by omega), andR_t c_52, bz_f c_61], by unfold takeG; rw [andR_t c_4, if_pos c_15, if_neg (by omega), andR_t c_52]; exact hB_58, ((hS_1.trans hS_41).trans hS_49).trans hS_58⟩
            | exact ⟨by unfold takeG; rw [andR_t c_4, if_pos c_15, if_neg (by omega), andR_t c_52, bz_t c_61], by unfold takeG; rw [andR_t c_4, if_pos c_15, if_neg (by omega), andR_t c_52]; exact hB_58, ((hS_1.trans hS_41).trans hS_49).trans hS_58⟩
          · try simp only [b01_0, bz_0, Classical.not_not] at c_61
            refine rj_iconst (pc := 64) dX11_isTakeRead_64 ?_
            refine r_goto (pc := 65) (tgt := 69) dX11_isTakeRead_65 (by decide) ?_
            refine r_ireturn (pc := 69) .boolean dX11_isTakeRead_69 rfl (by first | exact nar_J0 | exact nar_J1 | exact nar_b01 | exact nar_bz) ?_
            first
            | exact ⟨by unfold takeG; rw [andR_t c_4, if_pos c_15, if_neg (by omega), andR_f c_52, bz_f c_52], by unfold takeG; rw [andR_t c_4, if_pos c_15, if_neg (by omega), andR_f c_52]; exact hB_49, (hS_1.trans hS_41).trans hS_49⟩
            | exact ⟨by unfold takeG; rw [andR_t c_4, if_pos c_15, if_neg (by omega), andR_t c_52, bz_f c_61], by unfold takeG; rw [andR_t c_4, if_pos c_15, if_neg (by omega), andR_t c_52]; exact hB_58, ((hS_1.trans hS_41).trans hS_49).trans hS_58⟩
            | exact ⟨by unfold takeG; rw [andR_t c_4, if_pos c_15, if_neg (by omega), andR_t c_52, bz_t c_61], by unfold takeG; rw [andR_t c_4, if_pos c_15, if_neg (by omega), andR_t c_52]; exact hB_58, ((hS_1.trans hS_41).trans hS_49).trans hS_58⟩
      · refine r_aload_n (pc := 25) dX11_isTakeRead_25 rfl (by first | rfl | exact isRefV_rf _) ?_
        refine r_aload_n (pc := 26) dX11_isTakeRead_26 rfl (by first | rfl | exact isRefV_rf _) ?_
        refine rm_getf (pc := 27) dX11_isTakeRead_27 fX11_65 (by assumption) rfl ?_
        refine r_callV1 (pc := 30) dX11_isTakeRead_30 qX11_fails kX11_78 vX11_fails (by exact isM.gx (by assumption)) rfl rfl (Nat.le_of_ble_eq_true rfl) (m_fails (e + d + 2) hB_1 hT (aR_ok hq)) (fun v_30 h_30 q_30 => ?_)
        obtain ⟨rfl, hB_30, hS_30⟩ := q_30
        refine r_ireturn (pc := 33) .boolean dX11_isTakeRead_33 rfl (by first | exact nar_J0 | exact nar_J1 | exact nar_b01 | exact nar_bz) ?_
        exact ⟨by unfold takeG; rw [andR_t c_4, if_pos c_15, if_pos (by omega)]; exact congrArg (fun z => some (Value.int (J z))) (bz_f (b := false) (by decide)).symm, by unfold takeG; rw [andR_t c_4, if_pos c_15, if_pos (by omega)]; exact hB_30, hS_1.trans hS_30⟩
    · refine rj_iconst (pc := 18) dX11_isTakeRead_18 ?_
      refine r_ireturn (pc := 19) .boolean dX11_isTakeRead_19 rfl (by first | exact nar_J0 | exact nar_J1 | exact nar_b01 | exact nar_bz) ?_
      exact ⟨by unfold takeG; rw [andR_t c_4, if_neg c_15]; rw [bz_t rfl], by unfold takeG; rw [andR_t c_4, if_neg c_15]; exact hB_1, hS_1⟩
  · try simp only [b01_0, bz_0, Classical.not_not] at c_4
    refine rj_iconst (pc := 7) dX11_isTakeRead_7 ?_
    refine r_ireturn (pc := 8) .boolean dX11_isTakeRead_8 rfl (by first | exact nar_J0 | exact nar_J1 | exact nar_b01 | exact nar_bz) ?_
    exact ⟨by unfold takeG; rw [andR_f c_4, bz_f c_4], by unfold takeG; rw [andR_f c_4]; exact hB_1, hS_1⟩
end mg_25

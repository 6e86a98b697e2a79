section mg_24
set_option maxHeartbeats 4000000 in
set_option maxRecDepth 100000 in
theorem m_isSigned {G : mG} {l : Launch} (d : Nat) {h : mH} {x s : Nat} {f4 f6 f9 f14 f16 f18 : Int} {q : PS} {m kp was pool tape pln pap rwd rw sr : Nat → Int} (hB : isM h x (mFs x f4 f6 q.1 f9 q.2.1 q.2.2.1 q.2.2.2.1 q.2.2.2.2 f14 f16 f18 s) m kp was pool tape pln pap rwd rw) (hT : txOk s sr pool tape f9) (hq : psOk f9 q) : RUNM G l (d + 4) mX11_isSigned [.ref x] h (fun v h' => v = some (.int (J (b01 (signedB sr f9 q)))) ∧ isM h' x (mFs x f4 f6 (signedF sr f9 q).1 f9 (signedF sr f9 q).2.1 (signedF sr f9 q).2.2.1 (signedF sr f9 q).2.2.2.1 (signedF sr f9 q).2.2.2.2 f14 f16 f18 s) m kp was pool tape pln pap rwd rw ∧ Same (mBlk x) h h') := by
  dsimp only [mFs] at hB
  refine RUNM.of (by decide +kernel) (Nat.le_of_ble_eq_true rfl) ?_
  have hB0 := hB
  obtain ⟨hq1, hq2, hq3, hq4, hq5, hq6, hq7, hq8⟩ := id hq
  obtain ⟨hs, hl0, hby⟩ := id hT
  have hh := here_r hT q.1
  refine r_aload_n (pc := 0) dX11_isSigned_0 rfl (by first | rfl | exact isRefV_rf _) ?_
  refine r_dup (pc := 1) dX11_isSigned_1 (by first | rfl | (cases ‹Option Nat› <;> rfl)) ?_
  refine rm_getf (pc := 2) dX11_isSigned_2 fX11_65 (by assumption) rfl ?_
  refine r_aload_n (pc := 5) dX11_isSigned_5 rfl (by first | rfl | exact isRefV_rf _) ?_
  refine r_callV0 (pc := 6) dX11_isSigned_6 qX11_here kX11_74 vX11_here (by exact isM.gx (by assumption)) rfl rfl (Nat.le_of_ble_eq_true rfl) (m_here (d + 3) hB0 hT hq) (fun v_6 h_6 q_6 => ?_)
  obtain ⟨rfl, rfl⟩ := q_6
  refine rj_bipush (pc := 9) dX11_isSigned_9 (by decide +kernel) ?_
  refine rj_icmp_ne (pc := 11) (tgt := 18) dX11_isSigned_11 (by decide) (by first | assumption | exact b01_r | exact bz_r | omega | (constructor <;> omega) | exact hM _ | exact hPo _ | exact hTa _ | exact hRo _) (by first | assumption | exact b01_r | exact bz_r | omega | (constructor <;> omega) | exact hM _ | exact hPo _ | exact hTa _ | exact hRo _) (fun c_11 => ?_) (fun c_11 => ?_)
  · refine rj_iconst (pc := 18) dX11_isSigned_18 ?_
    refine rj_iadd (pc := 19) dX11_isSigned_19 ?_
    refine rm_putf (pc := 20) dX11_isSigned_20 fX11_65 (by assumption) rfl rfl (Nat.le_of_ble_eq_true rfl) (fun h_20 hB_20 hS_20 => ?_)
    dsimp only [List.set, mFs] at hB_20
    refine r_aload_n (pc := 23) dX11_isSigned_23 rfl (by first | rfl | exact isRefV_rf _) ?_
    refine rj_iconst (pc := 24) dX11_isSigned_24 ?_
    refine rj_iconst (pc := 25) dX11_isSigned_25 ?_
    refine rj_ldc (99999) (pc := 26) dX11_isSigned_26 oX11_84 (by decide +kernel) ?_
    refine r_callV3 (pc := 28) dX11_isSigned_28 qX11_isNumber kX11_85 vX11_isNumber (by exact isM.gx (by assumption)) rfl rfl (Nat.le_of_ble_eq_true rfl) ((m_isNumber (q := minusF sr f9 q) (F := 5) (lo := 0) (hi := 99999) d (by unfold minusF; rw [b01_f c_11]; exact hB_20) hT (minus_ok hq) (by decide) (by decide) (by decide))) (fun v_28 h_28 q_28 => ?_)
    obtain ⟨rfl, hB_28, hS_28⟩ := q_28
    refine r_ireturn (pc := 31) .boolean dX11_isSigned_31 rfl (by first | exact nar_J0 | exact nar_J1 | exact nar_b01 | exact nar_bz) ?_
    exact ⟨rfl, hB_28, hS_20.trans hS_28⟩
  · refine rj_iconst (pc := 14) dX11_isSigned_14 ?_
    refine r_goto (pc := 15) (tgt := 19) dX11_isSigned_15 (by decide) ?_
    refine rj_iadd (pc := 19) dX11_isSigned_19 ?_
    refine rm_putf (pc := 20) dX11_isSigned_20 fX11_65 (by assumption) rfl rfl (Nat.le_of_ble_eq_true rfl) (fun h_20 hB_20 hS_20 => ?_)
    dsimp only [List.set, mFs] at hB_20
    refine r_aload_n (pc := 23) dX11_isSigned_23 rfl (by first | rfl | exact isRefV_rf _) ?_
    refine rj_iconst (pc := 24) dX11_isSigned_24 ?_
    refine rj_iconst (pc := 25) dX11_isSigned_25 ?_
    refine rj_ldc (99999) (pc := 26) dX11_isSigned_26 oX11_84 (by decide +kernel) ?_
    refine r_callV3 (pc := 28) dX11_isSigned_28 qX11_isNumber kX11_85 vX11_isNumber (by exact isM.gx (by assumption)) rfl rfl (Nat.le_of_ble_eq_true rfl) ((m_isNumber (q := minusF sr f9 q) (F := 5) (lo := 0) (hi := 99999) d (by unfold minusF; rw [b01_t c_11]; exact hB_20) hT (minus_ok hq) (by decide) (by decide) (by decide))) (fun v_28 h_28 q_28 => ?_)
    obtain ⟨rfl, hB_28, hS_28⟩ := q_28
    refine r_ireturn (pc := 31) .boolean dX11_isSigned_31 rfl (by first | exact nar_J0 | exact nar_J1 | exact nar_b01 | exact nar_bz) ?_
    exact ⟨rfl, hB_28, hS_20.trans hS_28⟩
end mg_24

section mg_24
set_option maxHeartbeats 4000000 in
set_option maxRecDepth 100000 in
theorem m_isSign {G : mG} {l : Launch} (d : Nat) {h : mH} {x s : Nat} {f4 f6 f9 f14 f16 f18 : Int} {q : PS} {m kp was pool tape pln pap rwd rw sr : Nat → Int} (hB : isM h x (mFs x f4 f6 q.1 f9 q.2.1 q.2.2.1 q.2.2.2.1 q.2.2.2.2 f14 f16 f18 s) m kp was pool tape pln pap rwd rw) (hT : txOk s sr pool tape f9) (hq : psOk f9 q) {c : Int} (hc : InR c) : RUNM G l (d + 1) mX11_isSign [.ref x, .int (J c)] h (fun v h' => v = some (.int (J (b01 (hereF sr f9 q.1 = c)))) ∧ isM h' x (mFs x f4 f6 (signF sr f9 c q).1 f9 (signF sr f9 c q).2.1 (signF sr f9 c q).2.2.1 (signF sr f9 c q).2.2.2.1 (signF sr f9 c q).2.2.2.2 f14 f16 f18 s) m kp was pool tape pln pap rwd rw ∧ Same (mBlk x) h h') := by
  dsimp only [mFs] at hB
  refine RUNM.of (by decide +kernel) (Nat.le_of_ble_eq_true rfl) ?_
  have hB0 := hB
  obtain ⟨hq1, hq2, hq3, hq4, hq5, hq6, hq7, hq8⟩ := id hq
  obtain ⟨hs, hl0, hby⟩ := id hT
  have hh := here_r hT q.1
  refine r_aload_n (pc := 0) dX11_isSign_0 rfl (by first | rfl | exact isRefV_rf _) ?_
  refine r_callV0 (pc := 1) dX11_isSign_1 qX11_here kX11_74 vX11_here (by exact isM.gx (by assumption)) rfl rfl (Nat.le_of_ble_eq_true rfl) (m_here d hB0 hT hq) (fun v_1 h_1 q_1 => ?_)
  obtain ⟨rfl, rfl⟩ := q_1
  refine r_iload_n (pc := 4) dX11_isSign_4 rfl ?_
  refine rj_icmp_eq (pc := 5) (tgt := 17) dX11_isSign_5 (by decide) (by first | assumption | exact b01_r | exact bz_r | omega | (constructor <;> omega) | exact hM _ | exact hPo _ | exact hTa _ | exact hRo _) (by first | assumption | exact b01_r | exact bz_r | omega | (constructor <;> omega) | exact hM _ | exact hPo _ | exact hTa _ | exact hRo _) (fun c_5 => ?_) (fun c_5 => ?_)
  · refine r_aload_n (pc := 17) dX11_isSign_17 rfl (by first | rfl | exact isRefV_rf _) ?_
    refine r_dup (pc := 18) dX11_isSign_18 (by first | rfl | (cases ‹Option Nat› <;> rfl)) ?_
    refine rm_getf (pc := 19) dX11_isSign_19 fX11_65 (by assumption) rfl ?_
    refine rj_iconst (pc := 22) dX11_isSign_22 ?_
    refine rj_iadd (pc := 23) dX11_isSign_23 ?_
    refine rm_putf (pc := 24) dX11_isSign_24 fX11_65 (by assumption) rfl rfl (Nat.le_of_ble_eq_true rfl) (fun h_24 hB_24 hS_24 => ?_)
    dsimp only [List.set, mFs] at hB_24
    refine rj_iconst (pc := 27) dX11_isSign_27 ?_
    refine r_ireturn (pc := 28) .boolean dX11_isSign_28 rfl (by first | exact nar_J0 | exact nar_J1 | exact nar_b01 | exact nar_bz) ?_
    first
    | exact ⟨vf c_5, by unfold signF; rw [if_neg c_5]; exact hB_13, hS_13⟩
    | exact ⟨vt c_5, by unfold signF; rw [if_pos c_5]; exact hB_24, hS_24⟩
  · refine r_aload_n (pc := 8) dX11_isSign_8 rfl (by first | rfl | exact isRefV_rf _) ?_
    refine r_aload_n (pc := 9) dX11_isSign_9 rfl (by first | rfl | exact isRefV_rf _) ?_
    refine rm_getf (pc := 10) dX11_isSign_10 fX11_65 (by assumption) rfl ?_
    refine r_callV1 (pc := 13) dX11_isSign_13 qX11_fails kX11_78 vX11_fails (by exact isM.gx (by assumption)) rfl rfl (Nat.le_of_ble_eq_true rfl) (m_fails d hB0 hT hq) (fun v_13 h_13 q_13 => ?_)
    obtain ⟨rfl, hB_13, hS_13⟩ := q_13
    refine r_ireturn (pc := 16) .boolean dX11_isSign_16 rfl (by first | exact nar_J0 | exact nar_J1 | exact nar_b01 | exact nar_bz) ?_
    first
    | exact ⟨vf c_5, by unfold signF; rw [if_neg c_5]; exact hB_13, hS_13⟩
    | exact ⟨vt c_5, by unfold signF; rw [if_pos c_5]; exact hB_24, hS_24⟩
end mg_24

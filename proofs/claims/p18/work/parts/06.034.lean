section mg_24
set_option maxHeartbeats 4000000 in
set_option maxRecDepth 100000 in
theorem m_isNumber {G : mG} {l : Launch} (d : Nat) {h : mH} {x s : Nat} {f4 f6 f9 f14 f16 f18 : Int} {q : PS} {m kp was pool tape pln pap rwd rw sr : Nat → Int} (hB : isM h x (mFs x f4 f6 q.1 f9 q.2.1 q.2.2.1 q.2.2.2.1 q.2.2.2.2 f14 f16 f18 s) m kp was pool tape pln pap rwd rw) (hT : txOk s sr pool tape f9) (hq : psOk f9 q) {F : Nat} (hF : F ≤ 5) {lo hi : Int} (hlo : InR lo) (hhi : InR hi) : RUNM G l (d + 3) mX11_isNumber [.ref x, .int (J (F : Int)), .int (J lo), .int (J hi)] h (fun v h' => v = some (.int (J (b01 (numberB sr f9 F lo hi q)))) ∧ isM h' x (mFs x f4 f6 (numberF sr f9 F lo hi q).1 f9 (numberF sr f9 F lo hi q).2.1 (numberF sr f9 F lo hi q).2.2.1 (numberF sr f9 F lo hi q).2.2.2.1 (numberF sr f9 F lo hi q).2.2.2.2 f14 f16 f18 s) m kp was pool tape pln pap rwd rw ∧ Same (mBlk x) h h') := by
  dsimp only [mFs] at hB
  refine RUNM.of (by decide +kernel) (Nat.le_of_ble_eq_true rfl) ?_
  have hB0 := hB
  obtain ⟨hq1, hq2, hq3, hq4, hq5, hq6, hq7, hq8⟩ := id hq
  obtain ⟨hs, hl0, hby⟩ := id hT
  have hh := here_r hT q.1
  refine r_aload_n (pc := 0) dX11_isNumber_0 rfl (by first | rfl | exact isRefV_rf _) ?_
  refine rm_getf (pc := 1) dX11_isNumber_1 fX11_65 (by assumption) rfl ?_
  refine r_istore (pc := 4) dX11_isNumber_4 (Nat.le_of_ble_eq_true rfl) ?_
  dsimp only [lsSt, List.set, mLs, mEnt]
  refine r_aload_n (pc := 6) dX11_isNumber_6 rfl (by first | rfl | exact isRefV_rf _) ?_
  refine r_callV0 (pc := 7) dX11_isNumber_7 qX11_here kX11_74 vX11_here (by exact isM.gx (by assumption)) rfl rfl (Nat.le_of_ble_eq_true rfl) (m_here (d + 2) hB0 hT hq) (fun v_7 h_7 q_7 => ?_)
  obtain ⟨rfl, rfl⟩ := q_7
  refine rj_bipush (pc := 10) dX11_isNumber_10 (by decide +kernel) ?_
  refine rj_bipush (pc := 12) dX11_isNumber_12 (by decide +kernel) ?_
  refine r_callS3 (pc := 14) dX11_isNumber_14 qX11_isIn kX11_46 sX11_isIn (Nat.le_of_ble_eq_true rfl) (m_isIn (d + 2) ⟨by omega, by omega⟩ (by decide) (by decide)) (fun v_14 h_14 q_14 => ?_)
  obtain ⟨rfl, rfl⟩ := q_14
  refine rj_if_ne (pc := 17) (tgt := 29) dX11_isNumber_17 (by decide) (by first | assumption | exact b01_r | exact bz_r | omega | (constructor <;> omega) | exact hM _ | exact hPo _ | exact hTa _ | exact hRo _) (fun c_17 => ?_) (fun c_17 => ?_)
  · try simp only [b01_0, bz_0, Classical.not_not] at c_17
    refine r_aload_n (pc := 29) dX11_isNumber_29 rfl (by first | rfl | exact isRefV_rf _) ?_
    refine rj_iconst (pc := 30) dX11_isNumber_30 ?_
    refine rm_putf (pc := 31) dX11_isNumber_31 fX11_81 (by assumption) rfl rfl (Nat.le_of_ble_eq_true rfl) (fun h_31 hB_31 hS_31 => ?_)
    dsimp only [List.set, mFs] at hB_31
    refine rj_iconst (pc := 34) dX11_isNumber_34 ?_
    refine r_istore (pc := 35) dX11_isNumber_35 (Nat.le_of_ble_eq_true rfl) ?_
    dsimp only [lsSt, List.set, mLs, mEnt]
    have z := L_number (G := G) (l := l) d hT hF hlo hhi hq1 hq2 F 0 (q.1, q.2.1, 0, q.2.2.2) _ hB_31 ⟨hq1, hq2, hq3, hq4, Int.le_refl _, by dsimp only; decide, hq7, hq8⟩ (Nat.zero_add _) (bnd_0 F).1
    refine z.mono (fun v h' g => ⟨?_, ?_, hS_31.trans g.2.2⟩)
    · rw [g.1]; unfold numberB; simp only [c_17, true_and, and_self]
    · unfold numberF; rw [if_pos c_17]; exact g.2.1
  · try simp only [b01_0, bz_0, Classical.not_not] at c_17
    refine r_aload_n (pc := 20) dX11_isNumber_20 rfl (by first | rfl | exact isRefV_rf _) ?_
    refine r_aload_n (pc := 21) dX11_isNumber_21 rfl (by first | rfl | exact isRefV_rf _) ?_
    refine rm_getf (pc := 22) dX11_isNumber_22 fX11_65 (by assumption) rfl ?_
    refine r_callV1 (pc := 25) dX11_isNumber_25 qX11_fails kX11_78 vX11_fails (by exact isM.gx (by assumption)) rfl rfl (Nat.le_of_ble_eq_true rfl) (m_fails (d + 2) hB0 hT hq) (fun v_25 h_25 q_25 => ?_)
    obtain ⟨rfl, hB_25, hS_25⟩ := q_25
    refine r_ireturn (pc := 28) .boolean dX11_isNumber_28 rfl (by first | exact nar_J0 | exact nar_J1 | exact nar_b01 | exact nar_bz) ?_
    exact ⟨vf (fun g => c_17 g.1), by unfold numberF; rw [if_neg c_17]; exact hB_25, hS_25⟩
end mg_24

section mg_24
set_option maxHeartbeats 4000000 in
set_option maxRecDepth 100000 in
theorem m_isName {G : mG} {l : Launch} (d : Nat) {h : mH} {x s : Nat} {f4 f6 f9 f14 f16 f18 : Int} {q : PS} {m kp was pool tape pln pap rwd rw sr : Nat → Int} (hB : isM h x (mFs x f4 f6 q.1 f9 q.2.1 q.2.2.1 q.2.2.2.1 q.2.2.2.2 f14 f16 f18 s) m kp was pool tape pln pap rwd rw) (hT : txOk s sr pool tape f9) (hq : psOk f9 q) : RUNM G l (d + 2) mX11_isName [.ref x] h (fun v h' => v = some (.int (J (b01 (nameB sr f9 q)))) ∧ isM h' x (mFs x f4 f6 (nameF sr f9 q).1 f9 (nameF sr f9 q).2.1 (nameF sr f9 q).2.2.1 (nameF sr f9 q).2.2.2.1 (nameF sr f9 q).2.2.2.2 f14 f16 f18 s) m kp was pool tape pln pap rwd rw ∧ Same (mBlk x) h h') := by
  dsimp only [mFs] at hB
  refine RUNM.of (by decide +kernel) (Nat.le_of_ble_eq_true rfl) ?_
  have hB0 := hB
  obtain ⟨hq1, hq2, hq3, hq4, hq5, hq6, hq7, hq8⟩ := id hq
  obtain ⟨hs, hl0, hby⟩ := id hT
  have hh := here_r hT q.1
  refine r_aload_n (pc := 0) dX11_isName_0 rfl (by first | rfl | exact isRefV_rf _) ?_
  refine r_callV0 (pc := 1) dX11_isName_1 qX11_here kX11_74 vX11_here (by exact isM.gx (by assumption)) rfl rfl (Nat.le_of_ble_eq_true rfl) (m_here (d + 1) hB0 hT hq) (fun v_1 h_1 q_1 => ?_)
  obtain ⟨rfl, rfl⟩ := q_1
  refine rj_bipush (pc := 4) dX11_isName_4 (by decide +kernel) ?_
  refine rj_bipush (pc := 6) dX11_isName_6 (by decide +kernel) ?_
  refine r_callS3 (pc := 8) dX11_isName_8 qX11_isIn kX11_46 sX11_isIn (Nat.le_of_ble_eq_true rfl) (m_isIn (d + 1) ⟨by omega, by omega⟩ (by decide) (by decide)) (fun v_8 h_8 q_8 => ?_)
  obtain ⟨rfl, rfl⟩ := q_8
  refine rj_if_ne (pc := 11) (tgt := 23) dX11_isName_11 (by decide) (by first | assumption | exact b01_r | exact bz_r | omega | (constructor <;> omega) | exact hM _ | exact hPo _ | exact hTa _ | exact hRo _) (fun c_11 => ?_) (fun c_11 => ?_)
  · try simp only [b01_0, bz_0, Classical.not_not] at c_11
    refine rj_iconst (pc := 23) dX11_isName_23 ?_
    refine r_istore_n (pc := 24) dX11_isName_24 (Nat.le_of_ble_eq_true rfl) ?_
    dsimp only [lsSt, List.set, mLs, mEnt]
    have z := L_name (G := G) (l := l) d hT 7 0 q _ hB0 hq rfl
    exact z.mono (fun v h' g => ⟨by rw [g.1]; exact vt c_11, by unfold nameF; rw [if_pos c_11]; exact g.2.1, g.2.2⟩)
  · try simp only [b01_0, bz_0, Classical.not_not] at c_11
    refine r_aload_n (pc := 14) dX11_isName_14 rfl (by first | rfl | exact isRefV_rf _) ?_
    refine r_aload_n (pc := 15) dX11_isName_15 rfl (by first | rfl | exact isRefV_rf _) ?_
    refine rm_getf (pc := 16) dX11_isName_16 fX11_65 (by assumption) rfl ?_
    refine r_callV1 (pc := 19) dX11_isName_19 qX11_fails kX11_78 vX11_fails (by exact isM.gx (by assumption)) rfl rfl (Nat.le_of_ble_eq_true rfl) (m_fails (d + 1) hB0 hT hq) (fun v_19 h_19 q_19 => ?_)
    obtain ⟨rfl, hB_19, hS_19⟩ := q_19
    refine r_ireturn (pc := 22) .boolean dX11_isName_22 rfl (by first | exact nar_J0 | exact nar_J1 | exact nar_b01 | exact nar_bz) ?_
    exact ⟨vf c_11, by unfold nameF; rw [if_neg c_11]; exact hB_19, hS_19⟩
end mg_24

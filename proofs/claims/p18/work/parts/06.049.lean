section mg_26
set_option maxHeartbeats 4000000 in
set_option maxRecDepth 100000 in
theorem m_isStepsRead {G : mG} {l : Launch} {h : mH} {x s : Nat} {f4 f6 f9 f14 f16 f18 : Int} {q : PS} {m kp was pool tape pln pap rwd rw sr : Nat → Int} (hB : isM h x (mFs x f4 f6 q.1 f9 q.2.1 q.2.2.1 q.2.2.2.1 q.2.2.2.2 f14 f16 f18 s) m kp was pool tape pln pap rwd rw) (hT : txOk s sr pool tape f9) (hq : psOk f9 q) {w : Int} {it : Bool} {st : PS → Bool × PS} (hup : psUp f9 st) {D : Nat} (hSt : ∀ (q : PS) (h : mH), isM h x (mFs x f4 f6 q.1 f9 q.2.1 q.2.2.1 q.2.2.2.1 q.2.2.2.2 f14 f16 f18 s) m kp was pool tape pln pap rwd rw → psOk f9 q → RUNM G l D mX11_isStepRead [.ref x, .int (J w), .int (J (bz it)), .int (J 0)] h (fun v h' => v = some (.int (J (bz (st q).1))) ∧ isM h' x (mFs x f4 f6 ((st q).2).1 f9 ((st q).2).2.1 ((st q).2).2.2.1 ((st q).2).2.2.2.1 ((st q).2).2.2.2.2 f14 f16 f18 s) m kp was pool tape pln pap rwd rw ∧ Same (mBlk x) h h')) : RUNM G l (D + 1) mX11_isStepsRead [.ref x, .int (J w), .int (J (bz it))] h (fun v h' => v = some (.int (J (bz (stepsR sr f9 st q).1))) ∧ isM h' x (mFs x f4 f6 ((stepsR sr f9 st q).2).1 f9 ((stepsR sr f9 st q).2).2.1 ((stepsR sr f9 st q).2).2.2.1 ((stepsR sr f9 st q).2).2.2.2.1 ((stepsR sr f9 st q).2).2.2.2.2 f14 f16 f18 s) m kp was pool tape pln pap rwd rw ∧ Same (mBlk x) h h') := by
  have hB0 := hB
  dsimp only [mFs] at hB
  refine RUNM.of (by decide +kernel) (Nat.le_of_ble_eq_true rfl) ?_
  obtain ⟨hq1, hq2, hq3, hq4, hq5, hq6, hq7, hq8⟩ := id hq
  obtain ⟨hs, hl0, hby⟩ := id hT
  refine r_aload_n (pc := 0) dX11_isStepsRead_0 rfl (by first | rfl | exact isRefV_rf _) ?_
  refine r_iload_n (pc := 1) dX11_isStepsRead_1 rfl ?_
  refine r_iload_n (pc := 2) dX11_isStepsRead_2 rfl ?_
  refine rj_iconst (pc := 3) dX11_isStepsRead_3 ?_
  refine r_callV3 (pc := 4) dX11_isStepsRead_4 qX11_isStepRead kX11_108 vX11_isStepRead (by exact isM.gx (by assumption)) rfl rfl (Nat.le_of_ble_eq_true rfl) (hSt q _ hB0 hq) (fun v_4 h_4 q_4 => ?_)
  obtain ⟨rfl, hB_4, hS_4⟩ := q_4
  refine r_istore_n (pc := 7) dX11_isStepsRead_7 (Nat.le_of_ble_eq_true rfl) ?_
  dsimp only [lsSt, List.set, mLs, mEnt]
  refine rj_iconst (pc := 8) dX11_isStepsRead_8 ?_
  refine r_istore (pc := 9) dX11_isStepsRead_9 (Nat.le_of_ble_eq_true rfl) ?_
  dsimp only [lsSt, List.set, mLs, mEnt]
  have z := L_steps (G := G) (l := l) hT hup hSt (f9.toNat + 1) 1 (st q) _ hB_4 (hup _ hq).1 (by have := (hup _ hq).2; omega)
  exact z.mono (fun v h' g => ⟨g.1, g.2.1, hS_4.trans g.2.2⟩)
end mg_26

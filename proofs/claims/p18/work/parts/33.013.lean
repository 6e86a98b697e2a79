section mg_34
set_option maxHeartbeats 4000000 in
set_option maxRecDepth 100000 in
theorem m_isBelow {G : mG} {l : Launch} (d : Nat) {h : mH} {x s : Nat} {f4 f6 f8 f9 f10 f11 f12 f13 f14 f16 f18 : Int} {m kp was pool tape pln pap rwd rw : Nat → Int}(hB : isM h x (mFs x f4 f6 f8 f9 f10 f11 f12 f13 f14 f16 f18 s) m kp was pool tape pln pap rwd rw) {C : Nat} (hC2 : C ≤ 60) (hP : parOk m C) {a o : Int} (ho : InR o) (ha : -5 ≤ a) (ha2 : a < C) : RUNM G l (d + 1) mX11_isBelow [.ref x, .int (J a), .int (J o)] h (fun v h' => v = some (.int (J (bz (belowB m C o a)))) ∧ h' = h) := by
  refine RUNM.of (by decide +kernel) (Nat.le_of_ble_eq_true rfl) ?_
  refine r_iload_n (pc := 0) dX11_isBelow_0 rfl ?_
  refine r_istore_n (pc := 1) dX11_isBelow_1 (Nat.le_of_ble_eq_true rfl) ?_
  dsimp only [lsSt, List.set, mLs, mEnt]
  have z := L_isBelow (G := G) (l := l) d (a := a) hB hC2 hP ho C a ha2 ha ha2
  unfold belowB
  rw [bz_d]
  exact z
end mg_34

section mg_22
set_option maxHeartbeats 4000000 in
set_option maxRecDepth 100000 in
theorem m_held {G : mG} {l : Launch} (d : Nat) {h : mH} {x s : Nat} {f4 f6 f8 f9 f10 f11 f12 f13 f14 f16 f18 : Int} {m kp was pool tape pln pap rwd rw : Nat → Int}(hB : isM h x (mFs x f4 f6 f8 f9 f10 f11 f12 f13 f14 f16 f18 s) m kp was pool tape pln pap rwd rw) (hM : ∀ q, InR (m q)) {N : Nat} (hN : m 1 = (N : Int)) (hcap : N ≤ 90)  : RUNM G l (d + 2) mX11_held [.ref x] h (fun v h' => v = some (.int (J (cnt (heldB m) N))) ∧ h' = h) := by
  refine RUNM.of (by decide +kernel) (Nat.le_of_ble_eq_true rfl) ?_
  refine rj_iconst (pc := 0) dX11_held_0 ?_
  refine r_istore_n (pc := 1) dX11_held_1 (Nat.le_of_ble_eq_true rfl) ?_
  dsimp only [lsSt, List.set, mLs, mEnt]
  refine rj_iconst (pc := 2) dX11_held_2 ?_
  refine r_istore_n (pc := 3) dX11_held_3 (Nat.le_of_ble_eq_true rfl) ?_
  dsimp only [lsSt, List.set, mLs, mEnt]
  exact L_held d hB hM hN hcap  N 0 (by omega)
end mg_22

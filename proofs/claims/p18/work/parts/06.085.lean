section mg_31
set_option maxHeartbeats 4000000 in
set_option maxRecDepth 100000 in
theorem m_next {G : mG} {l : Launch} (d : Nat) {h : mH} {x s : Nat} {f4 f6 f8 f9 f10 f11 f12 f13 f14 f16 f18 : Int} {m kp was pool tape pln pap rwd rw : Nat → Int}(hB : isM h x (mFs x f4 f6 f8 f9 f10 f11 f12 f13 f14 f16 f18 s) m kp was pool tape pln pap rwd rw) (hM : ∀ q, InR (m q)) {N : Nat} (hN : m 3 = (N : Int)) (hcap : N ≤ 10) (hP : ∀ t, t < N → -99 ≤ m (1609 + 72 * t) ∧ m (1609 + 72 * t) ≤ 99) : RUNM G l (d + 3) mX11_next [.ref x] h (fun v h' => v = some (.int (J (nxL m N 0 (-5)))) ∧ h' = h) := by
  refine RUNM.of (by decide +kernel) (Nat.le_of_ble_eq_true rfl) ?_
  refine rj_bipush (pc := 0) dX11_next_0 (by decide +kernel) ?_
  refine r_istore_n (pc := 2) dX11_next_2 (Nat.le_of_ble_eq_true rfl) ?_
  dsimp only [lsSt, List.set, mLs, mEnt]
  refine rj_iconst (pc := 3) dX11_next_3 ?_
  refine r_istore_n (pc := 4) dX11_next_4 (Nat.le_of_ble_eq_true rfl) ?_
  dsimp only [lsSt, List.set, mLs, mEnt]
  exact L_next d hB hM hN hcap hP N 0 (-5) (by omega) (by decide) (by decide)
end mg_31

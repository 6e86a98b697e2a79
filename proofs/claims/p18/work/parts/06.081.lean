section mg_31
set_option maxHeartbeats 4000000 in
set_option maxRecDepth 100000 in
theorem m_lastOf {G : mG} {l : Launch} (d : Nat) {h : mH} {x s : Nat} {f4 f6 f8 f9 f10 f11 f12 f13 f14 f16 f18 : Int} {m kp was pool tape pln pap rwd rw : Nat → Int}(hB : isM h x (mFs x f4 f6 f8 f9 f10 f11 f12 f13 f14 f16 f18 s) m kp was pool tape pln pap rwd rw) (hM : ∀ q, InR (m q)) {N C : Nat} (hN : m 1 = (N : Int)) (hcap : N ≤ 90) (hC : m 0 = (C : Int)) (hC1 : 1 ≤ C) (hC2 : C ≤ 60) {a : Int} (ha : InR a) : RUNM G l (d + 3) mX11_lastOf [.ref x, .int (J a)] h (fun v h' => v = some (.int (J (lastM m a N C))) ∧ h' = h) := by
  refine RUNM.of (by decide +kernel) (Nat.le_of_ble_eq_true rfl) ?_
  refine rj_bipush (pc := 0) dX11_lastOf_0 (by decide +kernel) ?_
  refine r_istore_n (pc := 2) dX11_lastOf_2 (Nat.le_of_ble_eq_true rfl) ?_
  dsimp only [lsSt, List.set, mLs, mEnt]
  refine rj_iconst (pc := 3) dX11_lastOf_3 ?_
  refine r_istore_n (pc := 4) dX11_lastOf_4 (Nat.le_of_ble_eq_true rfl) ?_
  dsimp only [lsSt, List.set, mLs, mEnt]
  refine rj_iconst (pc := 5) dX11_lastOf_5 ?_
  refine r_istore (pc := 6) dX11_lastOf_6 (Nat.le_of_ble_eq_true rfl) ?_
  dsimp only [lsSt, List.set, mLs, mEnt]
  exact L_lastT d hB hM hN hcap hC hC1 hC2 ha N 0 (-5, -1) (by omega) (by decide)
abbrev aheadP (m : Nat → Int) (a b : Nat) : Prop := m (1609 + 72 * b) < m (1609 + 72 * a) ∨ (m (1609 + 72 * a) = m (1609 + 72 * b) ∧ (m (1613 + 72 * a) < m (1613 + 72 * b) ∨ (m (1613 + 72 * a) = m (1613 + 72 * b) ∧ a < b)))
end mg_31

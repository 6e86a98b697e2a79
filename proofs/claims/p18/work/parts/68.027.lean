section mg_71
set_option maxHeartbeats 4000000 in
set_option maxRecDepth 100000 in
theorem m_ticks {G : mG} {l : Launch} {x s : Nat} {f4 f6 f8 f9 f10 f11 f12 f13 f14 f16 f18 : Int} {kp was pool tape pln pap rwd rw : Nat → Int} (hPo : ∀ q, InR (pool q)) (h14 : InR f14) {B k : Nat} (hB1 : B ≤ 100) {m m' : Nat → Int} {h : mH} (hB : isM h x (mFs x f4 f6 f8 f9 f10 f11 f12 f13 f14 f16 f18 s) m kp was pool tape pln pap rwd rw) (hR : ticksR pool B m k m') : RUNM G l 401 mX11_ticks [.ref x, .int (J (B : Int))] h (fun v h' => v = some (.int (J (k : Int))) ∧ (∃ g14, InR g14 ∧ isM h' x (mFs x f4 f6 f8 f9 f10 f11 f12 f13 g14 f16 f18 s) m' kp was pool tape pln pap rwd rw) ∧ Same (mBlk x) h h') := by
  refine RUNM.of (by decide +kernel) (Nat.le_of_ble_eq_true rfl) ?_
  refine rj_iconst (pc := 0) dX11_ticks_0 ?_
  refine r_istore_n (pc := 1) dX11_ticks_1 (Nat.le_of_ble_eq_true rfl) ?_
  dsimp only [lsSt, List.set, mLs, mEnt]
  have y := L_ticks (G := G) (l := l) hPo hB1 B 0 k m f14 h (by omega) h14 hB hR
  exact y.mono (fun v h' q => ⟨by rw [q.1, Nat.zero_add], q.2⟩)
end mg_71

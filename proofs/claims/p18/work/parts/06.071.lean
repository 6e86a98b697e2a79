section mg_29
set_option maxHeartbeats 4000000 in
set_option maxRecDepth 100000 in
theorem m_heldBy {G : mG} {l : Launch} (d : Nat) {h : mH} {x s : Nat} {f4 f6 f8 f9 f10 f11 f12 f13 f14 f16 f18 : Int} {m kp was pool tape pln pap rwd rw : Nat → Int}(hB : isM h x (mFs x f4 f6 f8 f9 f10 f11 f12 f13 f14 f16 f18 s) m kp was pool tape pln pap rwd rw) (hM : ∀ q, InR (m q)) {rs : Nat} {rc : Nat → Int} {fr to : Nat} (hR : rowOk rs rc pool tape to) (hft : fr ≤ to) (hRo : ∀ q, InR (rc q)) {N : Nat} (hN : m 1 = (N : Int)) (hcap : N ≤ 90) (h7 : ∀ t, t < N → m (261 + 14 * t) ≤ 7) : RUNM G l (d + 3) mX11_heldBy [.ref x, .ref (mAd x rs), .int (J (fr : Int)), .int (J (to : Int))] h (fun v h' => v = some (.int (J (hbL m rc fr to N 0))) ∧ h' = h) := by
  refine RUNM.of (by decide +kernel) (Nat.le_of_ble_eq_true rfl) ?_
  refine rj_iconst (pc := 0) dX11_heldBy_0 ?_
  refine r_istore (pc := 1) dX11_heldBy_1 (Nat.le_of_ble_eq_true rfl) ?_
  dsimp only [lsSt, List.set, mLs, mEnt]
  exact L_heldBy d hB hM hR hft hRo hN hcap h7 N 0 (by omega)
end mg_29
section mg_30
/-! ===== contracts of the reference: names written, things taken, faults gathered ===== -/
def nwL (rc : Nat → Int) (t fr : Nat) : Nat → Nat → (Nat → Int) → (Nat → Int)
  | 0, _, m => m
  | n + 1, k, m => nwL rc t fr n (k + 1) (updI m (265 + 14 * t + (k - fr)) (rc k))
def namesM (m rc : Nat → Int) (t fr to : Nat) : Nat → Int := nwL rc t fr (to - fr) fr (updI m (261 + 14 * t) ((to : Int) - fr))
end mg_30

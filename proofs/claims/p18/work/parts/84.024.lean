section mg_86
set_option maxHeartbeats 4000000 in
set_option maxRecDepth 100000 in
theorem cq_heldAtPlace {G : mG} {l : Launch} (d : Nat) {h : mH} {w : Nat} {c : Nat → Int} {C : Nat → Nat → Int} {nm : Nat → Int64} {g : Nat → Option Nat} (hW : isW h w c C nm g) (hc : ∀ q, InR (c q)) {N : Nat} (hN : c 0 = (N : Int)) (hcap : N ≤ 90) {i : Int} (hi : InR i) : RUNM G l (d + 3) mX9_heldAtPlace [.ref w, .int (J i)] h (fun v h' => v = some (.int (J (hpL c nm N i N 0))) ∧ h' = h) := by
  refine RUNM.of (by decide +kernel) (Nat.le_of_ble_eq_true rfl) ?_
  refine rj_iconst (pc := 0) dX9_heldAtPlace_0 ?_
  refine r_istore_n (pc := 1) dX9_heldAtPlace_1 (Nat.le_of_ble_eq_true rfl) ?_
  dsimp only [lsSt, List.set, mLs, mEnt]
  exact L_heldAtPlace d hW hc hN hcap hi N 0 (by omega)
def ryB (c : Nat → Int) (t : Nat) : Bool := decide (c (489 + 9 * t) = 0)
end mg_86

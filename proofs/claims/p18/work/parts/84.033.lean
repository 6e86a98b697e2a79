section mg_87
set_option maxHeartbeats 4000000 in
set_option maxRecDepth 100000 in
theorem cq_readyAtPlace {G : mG} {l : Launch} (d : Nat) {h : mH} {w : Nat} {c : Nat → Int} {C : Nat → Nat → Int} {nm : Nat → Int64} {g : Nat → Option Nat} (hW : isW h w c C nm g) (hc : ∀ q, InR (c q)) {K : Nat} (hK : c 2 = (K : Int)) (hcapK : K ≤ 10) {i : Int} (hi : InR i) : RUNM G l (d + 3) mX9_readyAtPlace [.ref w, .int (J i)] h (fun v h' => v = some (.int (J (rpL c K i K 0))) ∧ h' = h) := by
  refine RUNM.of (by decide +kernel) (Nat.le_of_ble_eq_true rfl) ?_
  refine rj_iconst (pc := 0) dX9_readyAtPlace_0 ?_
  refine r_istore_n (pc := 1) dX9_readyAtPlace_1 (Nat.le_of_ble_eq_true rfl) ?_
  dsimp only [lsSt, List.set, mLs, mEnt]
  exact L_readyAtPlace d hW hc hK hcapK hi K 0 (by omega)
def nsB (c : Nat → Int) (i : Int) (t : Nat) : Bool := decide (c (306 + 3 * t) = i ∧ ¬ c (304 + 3 * t) = 1)
end mg_87

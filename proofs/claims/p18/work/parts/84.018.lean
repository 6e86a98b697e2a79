section mg_85
set_option maxHeartbeats 4000000 in
set_option maxRecDepth 100000 in
theorem cq_heldWithName {G : mG} {l : Launch} (d : Nat) {h : mH} {w : Nat} {c : Nat → Int} {C : Nat → Nat → Int} {nm : Nat → Int64} {g : Nat → Option Nat} (hW : isW h w c C nm g) (hc : ∀ q, InR (c q)) {N : Nat} (hN : c 0 = (N : Int)) (hcap : N ≤ 90) {y : Int64} : RUNM G l (d) mX9_heldWithName [.ref w, .long y] h (fun v h' => v = some (.int (J (hnL c nm y N 0))) ∧ h' = h) := by
  refine RUNM.of (by decide +kernel) (Nat.le_of_ble_eq_true rfl) ?_
  refine rj_iconst (pc := 0) dX9_heldWithName_0 ?_
  refine r_istore_n (pc := 1) dX9_heldWithName_1 (Nat.le_of_ble_eq_true rfl) ?_
  dsimp only [lsSt, List.set, mLs, mEnt]
  exact L_heldWithName d hW hc hN hcap N 0 (by omega)
end mg_85
section mg_86
/-! ===== the class: what its world answers, second half ===== -/
end mg_86

section mg_85
set_option maxHeartbeats 4000000 in
set_option maxRecDepth 100000 in
theorem cq_heldWithin {G : mG} {l : Launch} (d : Nat) {h : mH} {w : Nat} {c : Nat → Int} {C : Nat → Nat → Int} {nm : Nat → Int64} {g : Nat → Option Nat} (hW : isW h w c C nm g) (hc : ∀ q, InR (c q)) (hO : oOk c) {N : Nat} (hN : c 0 = (N : Int)) (hcap : N ≤ 90) {i : Int} (hi : InR i) : RUNM G l (d + 3) mX9_heldWithin [.ref w, .int (J i)] h (fun v h' => v = some (.int (J (cnt (hwB c i) N))) ∧ h' = h) := by
  refine RUNM.of (by decide +kernel) (Nat.le_of_ble_eq_true rfl) ?_
  refine rj_iconst (pc := 0) dX9_heldWithin_0 ?_
  refine r_istore_n (pc := 1) dX9_heldWithin_1 (Nat.le_of_ble_eq_true rfl) ?_
  dsimp only [lsSt, List.set, mLs, mEnt]
  refine rj_iconst (pc := 2) dX9_heldWithin_2 ?_
  refine r_istore_n (pc := 3) dX9_heldWithin_3 (Nat.le_of_ble_eq_true rfl) ?_
  dsimp only [lsSt, List.set, mLs, mEnt]
  exact L_heldWithin d hW hc hO hN hcap hi N 0 (by omega)
def ywL (c : Nat → Int) (i : Int) : Nat → Int
  | 0 => -5
  | n + 1 => if hwB c i n = true then (n : Int) else ywL c i n
end mg_85

section mg_86
set_option maxHeartbeats 4000000 in
set_option maxRecDepth 100000 in
theorem cq_heldAhead {G : mG} {l : Launch} (d : Nat) {h : mH} {w : Nat} {c : Nat → Int} {C : Nat → Nat → Int} {nm : Nat → Int64} {g : Nat → Option Nat} (hW : isW h w c C nm g) (hc : ∀ q, InR (c q)) {N : Nat} (hN : c 0 = (N : Int)) (hcap : N ≤ 90) {y : Int64} : RUNM G l (d + 2) mX9_heldAhead [.ref w, .long y] h (fun v h' => v = some (.int (J (cnt (haB c nm y) N))) ∧ h' = h) := by
  refine RUNM.of (by decide +kernel) (Nat.le_of_ble_eq_true rfl) ?_
  refine rj_iconst (pc := 0) dX9_heldAhead_0 ?_
  refine r_istore_n (pc := 1) dX9_heldAhead_1 (Nat.le_of_ble_eq_true rfl) ?_
  dsimp only [lsSt, List.set, mLs, mEnt]
  refine rj_iconst (pc := 2) dX9_heldAhead_2 ?_
  refine r_istore (pc := 3) dX9_heldAhead_3 (Nat.le_of_ble_eq_true rfl) ?_
  dsimp only [lsSt, List.set, mLs, mEnt]
  exact L_heldAhead d hW hc hN hcap N 0 (by omega)
def hpL (c : Nat → Int) (nm : Nat → Int64) (N : Nat) (i : Int) : Nat → Nat → Int
  | 0, _ => -1
  | n + 1, t => if c (32 + 3 * t) = 0 ∧ cnt (haB c nm (nm t)) N = i then (t : Int) else hpL c nm N i n (t + 1)
end mg_86

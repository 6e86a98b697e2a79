section mg_86
set_option maxHeartbeats 4000000 in
set_option maxRecDepth 100000 in
theorem cq_readyTasks {G : mG} {l : Launch} (d : Nat) {h : mH} {w : Nat} {c : Nat → Int} {C : Nat → Nat → Int} {nm : Nat → Int64} {g : Nat → Option Nat} (hW : isW h w c C nm g) (hc : ∀ q, InR (c q)) {K : Nat} (hK : c 2 = (K : Int)) (hcapK : K ≤ 10) : RUNM G l (d + 2) mX9_readyTasks [.ref w] h (fun v h' => v = some (.int (J (cnt (ryB c) K))) ∧ h' = h) := by
  refine RUNM.of (by decide +kernel) (Nat.le_of_ble_eq_true rfl) ?_
  refine rj_iconst (pc := 0) dX9_readyTasks_0 ?_
  refine r_istore_n (pc := 1) dX9_readyTasks_1 (Nat.le_of_ble_eq_true rfl) ?_
  dsimp only [lsSt, List.set, mLs, mEnt]
  refine rj_iconst (pc := 2) dX9_readyTasks_2 ?_
  refine r_istore_n (pc := 3) dX9_readyTasks_3 (Nat.le_of_ble_eq_true rfl) ?_
  dsimp only [lsSt, List.set, mLs, mEnt]
  exact L_readyTasks d hW hc hK hcapK K 0 (by omega)
abbrev caP (c : Nat → Int) (a b : Nat) : Prop := (¬ c (490 + 9 * a) = c (490 + 9 * b) ∧ c (490 + 9 * b) < c (490 + 9 * a)) ∨ (c (490 + 9 * a) = c (490 + 9 * b) ∧ c (492 + 9 * a) < c (492 + 9 * b))
end mg_86

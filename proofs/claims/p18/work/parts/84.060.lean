section mg_90
set_option maxHeartbeats 4000000 in
set_option maxRecDepth 100000 in
theorem cz_lettersOf {G : mG} {l : Launch} (d : Nat) {h : mH} {y : Int64} : RUNM G l (d + 1) mX10_lettersOf [.long y] h (fun v h' => v = some (.int (J (lnL y 7 0))) ∧ h' = h) := by
  refine RUNM.of (by decide +kernel) (Nat.le_of_ble_eq_true rfl) ?_
  refine rj_iconst (pc := 0) dX10_lettersOf_0 ?_
  refine r_istore_n (pc := 1) dX10_lettersOf_1 (Nat.le_of_ble_eq_true rfl) ?_
  dsimp only [lsSt, List.set, mLs, mEnt]
  exact L_lettersOf d 7 0 (by omega)
noncomputable def lessL (y : Int64) (z : Int) (f : Nat → Int) : Nat → Nat → Bool
  | 0, _ => false
  | n + 1, t => if letV y t = atF 120 z f t then lessL y z f n (t + 1) else decide (letV y t < atF 120 z f t)
end mg_90

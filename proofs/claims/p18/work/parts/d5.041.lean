section mg_f2
set_option maxHeartbeats 4000000 in
set_option maxRecDepth 100000 in
theorem kg_stepsFrom {G : mG} {l : Launch} (d : Nat) {h : mH} {n : Nat} {r : Option Nat} (hr : chL (hGet h) n r) (hn : n ≤ 1000) : RUNM G l d mX10_stepsFrom [va_rf r] h (fun v h' => v = some (.int (J (n : Int))) ∧ h' = h) := by
  cases r with
  | none =>
    cases n with
    | succ n => obtain ⟨a, kd, num, vl, y, inn, nx, e, -⟩ := hr; cases e
    | zero =>
      refine RUNM.of (by decide +kernel) (Nat.le_of_ble_eq_true rfl) ?_
      refine rj_iconst (pc := 0) dX10_stepsFrom_0 ?_
      refine r_istore_n (pc := 1) dX10_stepsFrom_1 (Nat.le_of_ble_eq_true rfl) ?_
      dsimp only [lsSt, List.set, mLs, mEnt]
      refine r_aload_n (pc := 2) dX10_stepsFrom_2 rfl (by first | rfl | exact isRefV_rf _) ?_
      refine r_astore_n (pc := 3) dX10_stepsFrom_3 (Nat.le_of_ble_eq_true rfl) (by first | rfl | exact isRefV_rf _) ?_
      dsimp only [lsSt, List.set, mLs, mEnt]
      refine r_aload_n (pc := 4) dX10_stepsFrom_4 rfl (by first | rfl | exact isRefV_rf _) ?_
      refine r_ifnull (pc := 5) (tgt := 19) dX10_stepsFrom_5 (by decide) (by first | rfl | exact isRefV_rf _) (fun c_5 => ?_) (fun a_5 c_5 => by cases c_5)
      refine r_iload_n (pc := 19) dX10_stepsFrom_19 rfl ?_
      refine r_ireturn (pc := 20) .int dX10_stepsFrom_20 rfl (by first | rfl | assumption) ?_
      exact ⟨rfl, rfl⟩
  | some r =>
    refine RUNM.of (by decide +kernel) (Nat.le_of_ble_eq_true rfl) ?_
    refine rj_iconst (pc := 0) dX10_stepsFrom_0 ?_
    refine r_istore_n (pc := 1) dX10_stepsFrom_1 (Nat.le_of_ble_eq_true rfl) ?_
    dsimp only [lsSt, List.set, mLs, mEnt]
    refine r_aload_n (pc := 2) dX10_stepsFrom_2 rfl (by first | rfl | exact isRefV_rf _) ?_
    refine r_astore_n (pc := 3) dX10_stepsFrom_3 (Nat.le_of_ble_eq_true rfl) (by first | rfl | exact isRefV_rf _) ?_
    dsimp only [lsSt, List.set, mLs, mEnt]
    have y := L_stepsFrom (G := G) (l := l) d (q0 := r) n 0 (some r) hr (by omega)
    rw [Nat.zero_add] at y
    exact y
end mg_f2

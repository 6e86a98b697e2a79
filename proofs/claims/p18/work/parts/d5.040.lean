section mg_f2
set_option maxHeartbeats 4000000 in
set_option maxRecDepth 100000 in
theorem L_stepsFrom {G : mG} {l : Launch} (d : Nat) {h : mH} {q0 : Nat} : ∀ (n k : Nat) (r : Option Nat), chL (hGet h) n r → k + n ≤ 1000 → RUN G l d mX10_stepsFrom 4 [some (.ref q0), some (.int (J (k : Int))), some (va_rf r)] [] h (fun v h' => v = some (.int (J ((k + n : Nat) : Int))) ∧ h' = h) := by
  intro n
  induction n with
  | zero =>
    intro k r hr hk
    obtain rfl : r = none := hr
    show RUN G l d mX10_stepsFrom 4 [some (.ref q0), some (.int (J (k : Int))), some .null] [] h _
    refine r_aload_n (pc := 4) dX10_stepsFrom_4 rfl (by first | rfl | exact isRefV_rf _) ?_
    refine r_ifnull (pc := 5) (tgt := 19) dX10_stepsFrom_5 (by decide) (by first | rfl | exact isRefV_rf _) (fun c_5 => ?_) (fun a_5 c_5 => by cases c_5)
    refine r_iload_n (pc := 19) dX10_stepsFrom_19 rfl ?_
    refine r_ireturn (pc := 20) .int dX10_stepsFrom_20 rfl (by first | rfl | assumption) ?_
    exact ⟨rfl, rfl⟩
  | succ n ih =>
    intro k r hr hk
    obtain ⟨a, kd, num, vl, y, inn, nx, rfl, hs, hr⟩ := hr
    unfold stO at hs
    show RUN G l d mX10_stepsFrom 4 [some (.ref q0), some (.int (J (k : Int))), some (.ref a)] [] h _
    refine r_aload_n (pc := 4) dX10_stepsFrom_4 rfl (by first | rfl | exact isRefV_rf _) ?_
    refine r_ifnull (pc := 5) (tgt := 19) dX10_stepsFrom_5 (by decide) (by first | rfl | exact isRefV_rf _) (fun c_5 => by cases c_5) (fun a_5 c_5 => ?_)
    refine rj_iinc (pc := 8) dX10_stepsFrom_8 (Nat.le_of_ble_eq_true rfl) rfl ?_
    dsimp only [lsSt, List.set, mLs, mEnt]
    refine r_aload_n (pc := 11) dX10_stepsFrom_11 rfl (by first | rfl | exact isRefV_rf _) ?_
    refine r_getf (pc := 12) dX10_stepsFrom_12 fX10_317 hs (by rfl) ?_
    refine r_astore_n (pc := 15) dX10_stepsFrom_15 (Nat.le_of_ble_eq_true rfl) (by first | rfl | exact isRefV_rf _) ?_
    dsimp only [lsSt, List.set, mLs, mEnt]
    refine r_goto (pc := 16) (tgt := 4) dX10_stepsFrom_16 (by decide) ?_
    have y2 := ih (k + 1) nx hr (by omega)
    rw [show ((k + 1 : Nat) : Int) = (k : Int) + 1 by omega, show k + 1 + n = k + (n + 1) by omega] at y2
    exact y2
end mg_f2

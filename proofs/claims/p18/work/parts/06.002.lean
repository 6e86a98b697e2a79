section mg_21
set_option maxHeartbeats 4000000 in
set_option maxRecDepth 100000 in
theorem m_ofScope {G : mG} {l : Launch} (d : Nat) {h : mH} {a b : Int} : RUNM G l (d) mX11_ofScope [.int (J a), .int (J b)] h (fun v h' => v = some (.int (J (18 + 4 * a + b))) ∧ h' = h) := by
  refine RUNM.of (by decide +kernel) (Nat.le_of_ble_eq_true rfl) ?_
  refine rj_bipush (pc := 0) dX11_ofScope_0 (by decide +kernel) ?_
  refine rj_iconst (pc := 2) dX11_ofScope_2 ?_
  refine r_iload_n (pc := 3) dX11_ofScope_3 rfl ?_
  refine rj_imul (pc := 4) dX11_ofScope_4 ?_
  refine rj_iadd (pc := 5) dX11_ofScope_5 ?_
  refine r_iload_n (pc := 6) dX11_ofScope_6 rfl ?_
  refine rj_iadd (pc := 7) dX11_ofScope_7 ?_
  refine r_ireturn (pc := 8) .int dX11_ofScope_8 rfl (by first | rfl | assumption) ?_
  exact ⟨by first | rfl | (congr 3; omega), rfl⟩
set_option maxHeartbeats 4000000 in
set_option maxRecDepth 100000 in
theorem m_ofThing {G : mG} {l : Launch} (d : Nat) {h : mH} {a b c : Int} : RUNM G l (d) mX11_ofThing [.int (J a), .int (J b), .int (J c)] h (fun v h' => v = some (.int (J (258 + 14 * a + b + c))) ∧ h' = h) := by
  refine RUNM.of (by decide +kernel) (Nat.le_of_ble_eq_true rfl) ?_
  refine rj_sipush (pc := 0) dX11_ofThing_0 (by decide +kernel) ?_
  refine rj_bipush (pc := 3) dX11_ofThing_3 (by decide +kernel) ?_
  refine r_iload_n (pc := 5) dX11_ofThing_5 rfl ?_
  refine rj_imul (pc := 6) dX11_ofThing_6 ?_
  refine rj_iadd (pc := 7) dX11_ofThing_7 ?_
  refine r_iload_n (pc := 8) dX11_ofThing_8 rfl ?_
  refine rj_iadd (pc := 9) dX11_ofThing_9 ?_
  refine r_iload_n (pc := 10) dX11_ofThing_10 rfl ?_
  refine rj_iadd (pc := 11) dX11_ofThing_11 ?_
  refine r_ireturn (pc := 12) .int dX11_ofThing_12 rfl (by first | rfl | assumption) ?_
  exact ⟨by first | rfl | (congr 3; omega), rfl⟩
set_option maxHeartbeats 4000000 in
set_option maxRecDepth 100000 in
theorem m_ofTask {G : mG} {l : Launch} (d : Nat) {h : mH} {a b c : Int} : RUNM G l (d) mX11_ofTask [.int (J a), .int (J b), .int (J c)] h (fun v h' => v = some (.int (J (1608 + 72 * a + b + c))) ∧ h' = h) := by
  refine RUNM.of (by decide +kernel) (Nat.le_of_ble_eq_true rfl) ?_
  refine rj_sipush (pc := 0) dX11_ofTask_0 (by decide +kernel) ?_
  refine rj_bipush (pc := 3) dX11_ofTask_3 (by decide +kernel) ?_
  refine r_iload_n (pc := 5) dX11_ofTask_5 rfl ?_
  refine rj_imul (pc := 6) dX11_ofTask_6 ?_
  refine rj_iadd (pc := 7) dX11_ofTask_7 ?_
  refine r_iload_n (pc := 8) dX11_ofTask_8 rfl ?_
  refine rj_iadd (pc := 9) dX11_ofTask_9 ?_
  refine r_iload_n (pc := 10) dX11_ofTask_10 rfl ?_
  refine rj_iadd (pc := 11) dX11_ofTask_11 ?_
  refine r_ireturn (pc := 12) .int dX11_ofTask_12 rfl (by first | rfl | assumption) ?_
  exact ⟨by first | rfl | (congr 3; omega), rfl⟩
end mg_21

section mg_53
set_option maxHeartbeats 4000000 in
set_option maxRecDepth 100000 in
theorem k_X8 {G : mG} {l : Launch} (d : Nat) {h : mH} {a : Nat} : RUNM G l (d + 1) mX8_init [.ref a] h (fun v h' => v = none ∧ h' = h) := by
  refine RUNM.of (by decide +kernel) (Nat.le_of_ble_eq_true rfl) ?_
  refine r_aload_n (pc := 0) dX8_init_0 rfl (by first | rfl | exact isRefV_rf _) ?_
  refine r_objInit (pc := 1) dX8_init_1 kX8_1 (Nat.le_of_ble_eq_true rfl) ?_
  refine r_return (pc := 4) dX8_init_4 rfl ?_
  exact ⟨rfl, rfl⟩
set_option maxHeartbeats 4000000 in
set_option maxRecDepth 100000 in
theorem k_X4 {G : mG} {l : Launch} (d : Nat) {h : mH} {a : Nat} : RUNM G l (d + 1) mX4_init [.ref a] h (fun v h' => v = none ∧ h' = h) := by
  refine RUNM.of (by decide +kernel) (Nat.le_of_ble_eq_true rfl) ?_
  refine r_aload_n (pc := 0) dX4_init_0 rfl (by first | rfl | exact isRefV_rf _) ?_
  refine r_objInit (pc := 1) dX4_init_1 kX4_1 (Nat.le_of_ble_eq_true rfl) ?_
  refine r_return (pc := 4) dX4_init_4 rfl ?_
  exact ⟨rfl, rfl⟩
set_option maxHeartbeats 4000000 in
set_option maxRecDepth 100000 in
theorem k_X7 {G : mG} {l : Launch} (d : Nat) {h : mH} {a : Nat} : RUNM G l (d + 1) mX7_init [.ref a] h (fun v h' => v = none ∧ h' = h) := by
  refine RUNM.of (by decide +kernel) (Nat.le_of_ble_eq_true rfl) ?_
  refine r_aload_n (pc := 0) dX7_init_0 rfl (by first | rfl | exact isRefV_rf _) ?_
  refine r_objInit (pc := 1) dX7_init_1 kX7_3 (Nat.le_of_ble_eq_true rfl) ?_
  refine r_return (pc := 4) dX7_init_4 rfl ?_
  exact ⟨rfl, rfl⟩
def zFa (h : mH) (a : Nat) : Prop := hGet h a = some (.inl (0, [.ref (a + 1), .ref (a + 3), .ref (a + 5), .int 0])) ∧ isI h (a + 1) 90 0 (fun _ => 0) ∧ isI h (a + 3) 90 0 (fun _ => 0) ∧ isI h (a + 5) 90 0 (fun _ => 0)
end mg_53

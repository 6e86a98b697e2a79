section mg_d6
set_option maxHeartbeats 4000000 in
set_option maxRecDepth 100000 in
theorem k_mayBe {G : mG} {l : Launch} (d : Nat) {h : mH} {a : Int} (ha : InR a) : RUNM G l (d) mX10_mayBePriority [.int (J a)] h (fun v h' => v = some (.int (J (b01 (-99 ≤ a ∧ a ≤ 99)))) ∧ h' = h) := by
  refine RUNM.of (by decide +kernel) (Nat.le_of_ble_eq_true rfl) ?_
  refine r_iload_n (pc := 0) dX10_mayBePriority_0 rfl ?_
  refine rj_bipush (pc := 1) dX10_mayBePriority_1 (by decide +kernel) ?_
  refine rj_icmp_lt (pc := 3) (tgt := 16) dX10_mayBePriority_3 (by decide) (by first | exact b01_r | exact bz_r | omega | (constructor <;> omega) | apply_assumption | (apply atF_r; assumption) | fail "no range") (by first | exact b01_r | exact bz_r | omega | (constructor <;> omega) | apply_assumption | (apply atF_r; assumption) | fail "no range") (fun c_3 => ?_) (fun c_3 => ?_)
  · refine rj_iconst (pc := 16) dX10_mayBePriority_16 ?_
    refine r_ireturn (pc := 17) .boolean dX10_mayBePriority_17 rfl (by first | exact nar_J0 | exact nar_J1 | exact nar_b01 | exact nar_bz) ?_
    first
    | exact ⟨rfl, rfl⟩
    | exact ⟨vf (by omega), rfl⟩
    | exact ⟨vt (by omega), rfl⟩
  · refine r_iload_n (pc := 6) dX10_mayBePriority_6 rfl ?_
    refine rj_bipush (pc := 7) dX10_mayBePriority_7 (by decide +kernel) ?_
    refine rj_icmp_gt (pc := 9) (tgt := 16) dX10_mayBePriority_9 (by decide) (by first | exact b01_r | exact bz_r | omega | (constructor <;> omega) | apply_assumption | (apply atF_r; assumption) | fail "no range") (by first | exact b01_r | exact bz_r | omega | (constructor <;> omega) | apply_assumption | (apply atF_r; assumption) | fail "no range") (fun c_9 => ?_) (fun c_9 => ?_)
    · refine rj_iconst (pc := 16) dX10_mayBePriority_16 ?_
      refine r_ireturn (pc := 17) .boolean dX10_mayBePriority_17 rfl (by first | exact nar_J0 | exact nar_J1 | exact nar_b01 | exact nar_bz) ?_
      first
      | exact ⟨rfl, rfl⟩
      | exact ⟨vf (by omega), rfl⟩
      | exact ⟨vt (by omega), rfl⟩
    · refine rj_iconst (pc := 12) dX10_mayBePriority_12 ?_
      refine r_goto (pc := 13) (tgt := 17) dX10_mayBePriority_13 (by decide) ?_
      refine r_ireturn (pc := 17) .boolean dX10_mayBePriority_17 rfl (by first | exact nar_J0 | exact nar_J1 | exact nar_b01 | exact nar_bz) ?_
      first
      | exact ⟨rfl, rfl⟩
      | exact ⟨vf (by omega), rfl⟩
      | exact ⟨vt (by omega), rfl⟩
end mg_d6

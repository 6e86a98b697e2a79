section mg_21
set_option maxHeartbeats 4000000 in
set_option maxRecDepth 100000 in
theorem m_isIn {G : mG} {l : Launch} (d : Nat) {h : mH} {a b c : Int} (ha : InR a) (hb : InR b) (hc : InR c) : RUNM G l (d) mX11_isIn [.int (J a), .int (J b), .int (J c)] h (fun v h' => v = some (.int (J (b01 (b ≤ a ∧ a ≤ c)))) ∧ h' = h) := by
  refine RUNM.of (by decide +kernel) (Nat.le_of_ble_eq_true rfl) ?_
  refine r_iload_n (pc := 0) dX11_isIn_0 rfl ?_
  refine r_iload_n (pc := 1) dX11_isIn_1 rfl ?_
  refine rj_icmp_lt (pc := 2) (tgt := 14) dX11_isIn_2 (by decide) (by first | assumption | exact b01_r | exact bz_r | omega | (constructor <;> omega) | exact hM _ | exact hPo _ | exact hTa _ | exact hRo _) (by first | assumption | exact b01_r | exact bz_r | omega | (constructor <;> omega) | exact hM _ | exact hPo _ | exact hTa _ | exact hRo _) (fun c_2 => ?_) (fun c_2 => ?_)
  · refine rj_iconst (pc := 14) dX11_isIn_14 ?_
    refine r_ireturn (pc := 15) .boolean dX11_isIn_15 rfl (by first | exact nar_J0 | exact nar_J1 | exact nar_b01 | exact nar_bz) ?_
    first
    | exact ⟨rfl, rfl⟩
    | exact ⟨vf (by omega), rfl⟩
    | exact ⟨vt (by omega), rfl⟩
  · refine r_iload_n (pc := 5) dX11_isIn_5 rfl ?_
    refine r_iload_n (pc := 6) dX11_isIn_6 rfl ?_
    refine rj_icmp_gt (pc := 7) (tgt := 14) dX11_isIn_7 (by decide) (by first | assumption | exact b01_r | exact bz_r | omega | (constructor <;> omega) | exact hM _ | exact hPo _ | exact hTa _ | exact hRo _) (by first | assumption | exact b01_r | exact bz_r | omega | (constructor <;> omega) | exact hM _ | exact hPo _ | exact hTa _ | exact hRo _) (fun c_7 => ?_) (fun c_7 => ?_)
    · refine rj_iconst (pc := 14) dX11_isIn_14 ?_
      refine r_ireturn (pc := 15) .boolean dX11_isIn_15 rfl (by first | exact nar_J0 | exact nar_J1 | exact nar_b01 | exact nar_bz) ?_
      first
      | exact ⟨rfl, rfl⟩
      | exact ⟨vf (by omega), rfl⟩
      | exact ⟨vt (by omega), rfl⟩
    · refine rj_iconst (pc := 10) dX11_isIn_10 ?_
      refine r_goto (pc := 11) (tgt := 15) dX11_isIn_11 (by decide) ?_
      refine r_ireturn (pc := 15) .boolean dX11_isIn_15 rfl (by first | exact nar_J0 | exact nar_J1 | exact nar_b01 | exact nar_bz) ?_
      first
      | exact ⟨rfl, rfl⟩
      | exact ⟨vf (by omega), rfl⟩
      | exact ⟨vt (by omega), rfl⟩
end mg_21

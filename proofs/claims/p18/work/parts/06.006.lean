section mg_21
set_option maxHeartbeats 4000000 in
set_option maxRecDepth 100000 in
theorem m_isOpen {G : mG} {l : Launch} (d : Nat) {h : mH} {x s : Nat} {f4 f6 f8 f9 f10 f11 f12 f13 f14 f16 f18 : Int} {m kp was pool tape pln pap rwd rw : Nat → Int}(hB : isM h x (mFs x f4 f6 f8 f9 f10 f11 f12 f13 f14 f16 f18 s) m kp was pool tape pln pap rwd rw) (hM : ∀ q, InR (m q)) (h0 : 0 ≤ m 0 ∧ m 0 ≤ 60) {a : Int} (ha : InR a) : RUNM G l (d + 2) mX11_isOpen [.ref x, .int (J a)] h (fun v h' => v = some (.int (J (b01 (0 ≤ a ∧ a ≤ m 0 - 1 ∧ m (18 + 4 * a).toNat = 0)))) ∧ h' = h) := by
  dsimp only [mFs] at hB
  refine RUNM.of (by decide +kernel) (Nat.le_of_ble_eq_true rfl) ?_
  have r0 := hM 0
  refine r_aload_n (pc := 0) dX11_isOpen_0 rfl (by first | rfl | exact isRefV_rf _) ?_
  refine r_iload_n (pc := 1) dX11_isOpen_1 rfl ?_
  refine r_callV1 (pc := 2) dX11_isOpen_2 qX11_isScope kX11_50 vX11_isScope (by exact isM.gx (by assumption)) rfl rfl (Nat.le_of_ble_eq_true rfl) (m_isScope d hB ha ⟨by omega, by omega⟩) (fun v_2 h_2 q_2 => ?_)
  obtain ⟨rfl, rfl⟩ := q_2
  refine rj_if_eq (pc := 5) (tgt := 25) dX11_isOpen_5 (by decide) (by first | assumption | exact b01_r | exact bz_r | omega | (constructor <;> omega) | exact hM _ | exact hPo _ | exact hTa _ | exact hRo _) (fun c_5 => ?_) (fun c_5 => ?_)
  · try simp only [b01_0, bz_0, Classical.not_not] at c_5
    refine rj_iconst (pc := 25) dX11_isOpen_25 ?_
    refine r_ireturn (pc := 26) .boolean dX11_isOpen_26 rfl (by first | exact nar_J0 | exact nar_J1 | exact nar_b01 | exact nar_bz) ?_
    first
    | exact ⟨rfl, rfl⟩
    | exact ⟨vf (by omega), rfl⟩
    | exact ⟨vt (by omega), rfl⟩
  · try simp only [b01_0, bz_0, Classical.not_not] at c_5
    refine r_aload_n (pc := 8) dX11_isOpen_8 rfl (by first | rfl | exact isRefV_rf _) ?_
    refine rm_getf (pc := 9) dX11_isOpen_9 fX11_11 (by assumption) rfl ?_
    refine r_iload_n (pc := 12) dX11_isOpen_12 rfl ?_
    refine rj_iconst (pc := 13) dX11_isOpen_13 ?_
    refine r_callS2 (pc := 14) dX11_isOpen_14 qX11_ofScope kX11_42 sX11_ofScope (Nat.le_of_ble_eq_true rfl) (m_ofScope (d + 1)) (fun v_14 h_14 q_14 => ?_)
    obtain ⟨rfl, rfl⟩ := q_14
    refine rj_iald (pc := 17) dX11_isOpen_17 (by first | exact isM.g0 (by assumption) | exact isM.g3 (by assumption) | exact isM.g4 (by assumption) | exact isM.g8 (by assumption) | exact isM.g7 (by assumption) | exact isM.g6 (by assumption) | exact isM.g5 (by assumption) | exact isM.g1 (by assumption) | exact isM.g2 (by assumption)) (by first | assumption | exact b01_r | exact bz_r | omega | (constructor <;> omega) | exact hM _ | exact hPo _ | exact hTa _ | exact hRo _) (by first | assumption | exact b01_r | exact bz_r | omega | (constructor <;> omega) | exact hM _ | exact hPo _ | exact hTa _ | exact hRo _) (by first | assumption | exact b01_r | exact bz_r | omega | (constructor <;> omega) | exact hM _ | exact hPo _ | exact hTa _ | exact hRo _) rfl ?_
    rw [Int.add_zero]
    refine rj_if_ne (pc := 18) (tgt := 25) dX11_isOpen_18 (by decide) (by first | assumption | exact b01_r | exact bz_r | omega | (constructor <;> omega) | exact hM _ | exact hPo _ | exact hTa _ | exact hRo _) (fun c_18 => ?_) (fun c_18 => ?_)
    · try simp only [b01_0, bz_0, Classical.not_not] at c_18
      refine rj_iconst (pc := 25) dX11_isOpen_25 ?_
      refine r_ireturn (pc := 26) .boolean dX11_isOpen_26 rfl (by first | exact nar_J0 | exact nar_J1 | exact nar_b01 | exact nar_bz) ?_
      first
      | exact ⟨rfl, rfl⟩
      | exact ⟨vf (by omega), rfl⟩
      | exact ⟨vt (by omega), rfl⟩
    · try simp only [b01_0, bz_0, Classical.not_not] at c_18
      refine rj_iconst (pc := 21) dX11_isOpen_21 ?_
      refine r_goto (pc := 22) (tgt := 26) dX11_isOpen_22 (by decide) ?_
      refine r_ireturn (pc := 26) .boolean dX11_isOpen_26 rfl (by first | exact nar_J0 | exact nar_J1 | exact nar_b01 | exact nar_bz) ?_
      first
      | exact ⟨rfl, rfl⟩
      | exact ⟨vf (by omega), rfl⟩
      | exact ⟨vt (by omega), rfl⟩
end mg_21

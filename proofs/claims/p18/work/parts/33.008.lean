section mg_33
set_option maxHeartbeats 4000000 in
set_option maxRecDepth 100000 in
theorem m_open {G : mG} {l : Launch} (d : Nat) {h : mH} {x s : Nat} {f4 f6 f8 f9 f10 f11 f12 f13 f14 f16 f18 : Int} {m kp was pool tape pln pap rwd rw : Nat → Int}(hB : isM h x (mFs x f4 f6 f8 f9 f10 f11 f12 f13 f14 f16 f18 s) m kp was pool tape pln pap rwd rw) (hM : ∀ q, InR (m q)) {C : Nat} (hC : m 0 = (C : Int)) (hC2 : C ≤ 60) {a : Int} (ha : InR a) : RUNM G l (d + 3) mX11_open [.ref x, .int (J a)] h (fun v h' => v = some (.int (J (openV m a))) ∧ ((openV m a < 0 ∧ h' = h) ∨ (0 ≤ openV m a ∧ C ≤ 59 ∧ isM h' x (mFs x f4 f6 f8 f9 f10 f11 f12 f13 f14 f16 f18 s) (opensM m C a (-5)) kp was pool tape pln pap rwd rw ∧ Same (mBlk x) h h'))) := by
  have hB0 := hB
  have r0 := hM 0
  dsimp only [mFs] at hB
  refine RUNM.of (by decide +kernel) (Nat.le_of_ble_eq_true rfl) ?_
  refine r_aload_n (pc := 0) dX11_open_0 rfl (by first | rfl | exact isRefV_rf _) ?_
  refine r_iload_n (pc := 1) dX11_open_1 rfl ?_
  refine r_callV1 (pc := 2) dX11_open_2 qX11_isScope kX11_50 vX11_isScope (by exact isM.gx (by assumption)) rfl rfl (Nat.le_of_ble_eq_true rfl) (m_isScope (d + 1) hB0 ha ⟨by omega, by omega⟩) (fun v_2 h_2 q_2 => ?_)
  obtain ⟨rfl, rfl⟩ := q_2
  refine rj_if_ne (pc := 5) (tgt := 10) dX11_open_5 (by decide) (by first | assumption | exact b01_r | exact bz_r | omega | (constructor <;> omega) | exact hM _ | exact hPo _ | exact hTa _ | exact hRo _) (fun c_5 => ?_) (fun c_5 => ?_)
  · try simp only [b01_0, bz_0, Classical.not_not] at c_5
    refine r_aload_n (pc := 10) dX11_open_10 rfl (by first | rfl | exact isRefV_rf _) ?_
    refine r_iload_n (pc := 11) dX11_open_11 rfl ?_
    refine r_callV1 (pc := 12) dX11_open_12 qX11_isOpen kX11_146 vX11_isOpen (by exact isM.gx (by assumption)) rfl rfl (Nat.le_of_ble_eq_true rfl) (m_isOpen d hB0 hM ⟨by omega, by omega⟩ ha) (fun v_12 h_12 q_12 => ?_)
    obtain ⟨rfl, rfl⟩ := q_12
    refine rj_if_ne (pc := 15) (tgt := 21) dX11_open_15 (by decide) (by first | assumption | exact b01_r | exact bz_r | omega | (constructor <;> omega) | exact hM _ | exact hPo _ | exact hTa _ | exact hRo _) (fun c_15 => ?_) (fun c_15 => ?_)
    · try simp only [b01_0, bz_0, Classical.not_not] at c_15
      refine r_aload_n (pc := 21) dX11_open_21 rfl (by first | rfl | exact isRefV_rf _) ?_
      refine rm_getf (pc := 22) dX11_open_22 fX11_11 (by assumption) rfl ?_
      refine rj_iconst (pc := 25) dX11_open_25 ?_
      refine rj_iald (pc := 26) (j := 0) dX11_open_26 (by first | exact isM.g0 (by assumption) | exact isM.g3 (by assumption) | exact isM.g4 (by assumption) | exact isM.g8 (by assumption) | exact isM.g7 (by assumption) | exact isM.g6 (by assumption) | exact isM.g5 (by assumption) | exact isM.g1 (by assumption) | exact isM.g2 (by assumption)) (by first | assumption | exact b01_r | exact bz_r | omega | (constructor <;> omega) | exact hM _ | exact hPo _ | exact hTa _ | exact hRo _) (by first | assumption | exact b01_r | exact bz_r | omega | (constructor <;> omega) | exact hM _ | exact hPo _ | exact hTa _ | exact hRo _) (by first | assumption | exact b01_r | exact bz_r | omega | (constructor <;> omega) | exact hM _ | exact hPo _ | exact hTa _ | exact hRo _) rfl ?_
      refine rj_bipush (pc := 27) dX11_open_27 (by decide +kernel) ?_
      refine rj_icmp_ne (pc := 29) (tgt := 37) dX11_open_29 (by decide) (by first | assumption | exact b01_r | exact bz_r | omega | (constructor <;> omega) | exact hM _ | exact hPo _ | exact hTa _ | exact hRo _) (by first | assumption | exact b01_r | exact bz_r | omega | (constructor <;> omega) | exact hM _ | exact hPo _ | exact hTa _ | exact hRo _) (fun c_29 => ?_) (fun c_29 => ?_)
      · refine r_aload_n (pc := 37) dX11_open_37 rfl (by first | rfl | exact isRefV_rf _) ?_
        refine r_iload_n (pc := 38) dX11_open_38 rfl ?_
        refine rj_bipush (pc := 39) dX11_open_39 (by decide +kernel) ?_
        refine r_callV2 (pc := 41) dX11_open_41 qX11_opens kX11_186 vX11_opens (by exact isM.gx (by assumption)) rfl rfl (Nat.le_of_ble_eq_true rfl) (m_opens (d + 1) hB0 hC (by omega)) (fun v_41 h_41 q_41 => ?_)
        obtain ⟨rfl, hB_41, hS_41⟩ := q_41
        refine r_ireturn (pc := 44) .int dX11_open_44 rfl (by first | rfl | assumption) ?_
        first
        | (have e1 : openV m a = -4 := by unfold openV; rw [if_pos c_5, if_pos c_15, if_pos c_29]
           exact ⟨by rw [e1], Or.inl ⟨by rw [e1]; decide, rfl⟩⟩)
        | (have e1 : openV m a = (C : Int) := by unfold openV; rw [if_pos c_5, if_pos c_15, if_neg c_29, hC]
           exact ⟨by rw [e1], Or.inr ⟨by rw [e1]; omega, by omega, hB_41, hS_41⟩⟩)
      · refine rj_bipush (pc := 32) dX11_open_32 (by decide +kernel) ?_
        refine r_goto (pc := 34) (tgt := 44) dX11_open_34 (by decide) ?_
        refine r_ireturn (pc := 44) .int dX11_open_44 rfl (by first | rfl | assumption) ?_
        first
        | (have e1 : openV m a = -4 := by unfold openV; rw [if_pos c_5, if_pos c_15, if_pos c_29]
           exact ⟨by rw [e1], Or.inl ⟨by rw [e1]; decide, rfl⟩⟩)
        | (have e1 : openV m a = (C : Int) := by unfold openV; rw [if_pos c_5, if_pos c_15, if_neg c_29, hC]
           exact ⟨by rw [e1], Or.inr ⟨by rw [e1]; omega, by omega, hB_41, hS_41⟩⟩)
    · try simp only [b01_0, bz_0, Classical.not_not] at c_15
      refine rj_bipush (pc := 18) dX11_open_18 (by decide +kernel) ?_
      refine r_ireturn (pc := 20) .int dX11_open_20 rfl (by first | rfl | assumption) ?_
      have e1 : openV m a = -3 := by unfold openV; rw [if_pos c_5, if_neg c_15]
      exact ⟨by rw [e1], Or.inl ⟨by rw [e1]; decide, rfl⟩⟩
  · try simp only [b01_0, bz_0, Classical.not_not] at c_5
    refine rj_iconst (pc := 8) dX11_open_8 ?_
    refine r_ireturn (pc := 9) .int dX11_open_9 rfl (by first | rfl | assumption) ?_
    have e1 : openV m a = -1 := by unfold openV; rw [if_neg c_5]
    exact ⟨by rw [e1], Or.inl ⟨by rw [e1]; decide, rfl⟩⟩
end mg_33

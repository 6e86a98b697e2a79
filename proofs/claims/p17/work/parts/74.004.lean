set_option maxHeartbeats 4000000 in
set_option maxRecDepth 100000 in
theorem m_plan {G : mG} {l : Launch} {x s : Nat} {f4 f6 f8 f9 f10 f11 f12 f13 f14 f16 f18 : Int} {m kp was pool tape pln pap rwd rw : Nat → Int} {h : mH} (hB : isM h x (mFs x f4 f6 f8 f9 f10 f11 f12 f13 f14 f16 f18 s) m kp was pool tape pln pap rwd rw) (hok : mOk m) (h6 : InR (m 6 + 1)) {a i : Int} (ha : InR a) (hi : InR i) {p' : Nat → Int} {k' : Nat} (hk : k' ≤ 90) (hR : (0 ≤ a ∧ a ≤ m 0 - 1) → plR m 61 a pln 0 p' k') : RUNM G l 70 mX11_plan [.ref x, .int (J a), .int (J i)] h (fun v h' => (¬ (0 ≤ a ∧ a ≤ m 0 - 1) ∧ v = some (.int (J (-1))) ∧ h' = h) ∨ ((0 ≤ a ∧ a ≤ m 0 - 1) ∧ v = some (.int (J (planV p' k' i))) ∧ isM h' x (mFs x f4 f6 f8 f9 f10 f11 f12 f13 f14 (k' : Int) f18 s) m kp was pool tape p' pap rwd rw ∧ Same (mBlk x) h h')) := by
  obtain ⟨hM, k0, k1, k2, k3, k4, k5, k7⟩ := id hok
  have hB0 := hB
  dsimp only [mFs] at hB
  refine RUNM.of (by decide +kernel) (Nat.le_of_ble_eq_true rfl) ?_
  refine r_aload_n (pc := 0) dX11_plan_0 rfl (by first | rfl | exact isRefV_rf _) ?_
  refine r_iload_n (pc := 1) dX11_plan_1 rfl ?_
  refine r_callV1 (pc := 2) dX11_plan_2 qX11_isScope kX11_50 vX11_isScope (by exact isM.gx (by assumption)) rfl rfl (Nat.le_of_ble_eq_true rfl) ((m_isScope 0 hB0 ha ⟨by omega, by omega⟩).deeper (by omega)) (fun v_2 h_2 q_2 => ?_)
  obtain ⟨rfl, rfl⟩ := q_2
  refine rj_if_ne (pc := 5) (tgt := 10) dX11_plan_5 (by decide) (by first | assumption | exact b01_r | exact bz_r | omega | (constructor <;> omega) | exact hM _ | exact hPo _ | exact hTa _ | exact hRo _) (fun c_5 => ?_) (fun c_5 => ?_)
  · try simp only [b01_0, bz_0, Classical.not_not] at c_5
    refine r_aload_n (pc := 10) dX11_plan_10 rfl (by first | rfl | exact isRefV_rf _) ?_
    refine rj_iconst (pc := 11) dX11_plan_11 ?_
    refine rm_putf (pc := 12) dX11_plan_12 fX11_273 (by assumption) rfl rfl (Nat.le_of_ble_eq_true rfl) (fun h_12 hB_12 hS_12 => ?_)
    dsimp only [List.set, mFs] at hB_12
    have hB_12b : isM h_12 x (mFs x f4 f6 f8 f9 f10 f11 f12 f13 f14 ((0 : Nat) : Int) f18 s) m kp was pool tape pln pap rwd rw := hB_12
    refine r_aload_n (pc := 15) dX11_plan_15 rfl (by first | rfl | exact isRefV_rf _) ?_
    refine r_iload_n (pc := 16) dX11_plan_16 rfl ?_
    refine r_callV1 (pc := 17) dX11_plan_17 qX11_plansOf kX11_270 vX11_plansOf (by exact isM.gx (by assumption)) rfl rfl (Nat.le_of_ble_eq_true rfl) (by have y := m_plansOf (G := G) (l := l) hok h6 61 a pln 0 p' k' _ ha (hR c_5) hB_12b; exact y.deeper (by omega)) (fun v_17 h_17 q_17 => ?_)
    obtain ⟨rfl, hB_17, S_17⟩ := q_17
    refine r_iload_n (pc := 20) dX11_plan_20 rfl ?_
    refine rj_iconst (pc := 21) dX11_plan_21 ?_
    refine r_aload_n (pc := 22) dX11_plan_22 rfl (by first | rfl | exact isRefV_rf _) ?_
    refine rm_getf (pc := 23) dX11_plan_23 fX11_273 (by assumption) rfl ?_
    refine rj_iconst (pc := 26) dX11_plan_26 ?_
    refine rj_isub (pc := 27) dX11_plan_27 ?_
    refine r_callS3 (pc := 28) dX11_plan_28 qX11_isIn kX11_46 sX11_isIn (Nat.le_of_ble_eq_true rfl) ((m_isIn 0 hi (by decide) ⟨by omega, by omega⟩).deeper (by omega)) (fun v_28 h_28 q_28 => ?_)
    obtain ⟨rfl, rfl⟩ := q_28
    refine rj_if_ne (pc := 31) (tgt := 38) dX11_plan_31 (by decide) (by first | assumption | exact b01_r | exact bz_r | omega | (constructor <;> omega) | exact hM _ | exact hPo _ | exact hTa _ | exact hRo _) (fun c_31 => ?_) (fun c_31 => ?_)
    · try simp only [b01_0, bz_0, Classical.not_not] at c_31
      refine r_iload_n (pc := 38) dX11_plan_38 rfl ?_
      refine rj_if_ge (pc := 39) (tgt := 49) dX11_plan_39 (by decide) (by first | assumption | exact b01_r | exact bz_r | omega | (constructor <;> omega) | exact hM _ | exact hPo _ | exact hTa _ | exact hRo _) (fun c_39 => ?_) (fun c_39 => ?_)
      · refine r_aload_n (pc := 49) dX11_plan_49 rfl (by first | rfl | exact isRefV_rf _) ?_
        refine rm_getf (pc := 50) dX11_plan_50 fX11_30 (by assumption) rfl ?_
        refine r_iload_n (pc := 53) dX11_plan_53 rfl ?_
        refine rj_iald (pc := 54) (j := i.toNat) dX11_plan_54 (by first | exact isM.g0 (by assumption) | exact isM.g3 (by assumption) | exact isM.g4 (by assumption) | exact isM.g8 (by assumption) | exact isM.g7 (by assumption) | exact isM.g6 (by assumption) | exact isM.g5 (by assumption) | exact isM.g1 (by assumption) | exact isM.g2 (by assumption)) (by first | assumption | exact b01_r | exact bz_r | omega | (constructor <;> omega) | exact hM _ | exact hPo _ | exact hTa _ | exact hRo _) (by first | assumption | exact b01_r | exact bz_r | omega | (constructor <;> omega) | exact hM _ | exact hPo _ | exact hTa _ | exact hRo _) (by first | assumption | exact b01_r | exact bz_r | omega | (constructor <;> omega) | exact hM _ | exact hPo _ | exact hTa _ | exact hRo _) (by omega) ?_
        refine r_ireturn (pc := 55) .int dX11_plan_55 rfl (by first | rfl | assumption) ?_
        first | exact Or.inr ⟨c_5, by unfold planV; rw [if_neg c_31], hB_17, hS_12.trans S_17⟩ | exact Or.inr ⟨c_5, by unfold planV; rw [if_pos c_31, if_pos (by omega)], hB_17, hS_12.trans S_17⟩ | exact Or.inr ⟨c_5, by unfold planV; rw [if_pos c_31, if_neg (by omega)], hB_17, hS_12.trans S_17⟩
      · refine r_aload_n (pc := 42) dX11_plan_42 rfl (by first | rfl | exact isRefV_rf _) ?_
        refine rm_getf (pc := 43) dX11_plan_43 fX11_273 (by assumption) rfl ?_
        refine r_goto (pc := 46) (tgt := 55) dX11_plan_46 (by decide) ?_
        refine r_ireturn (pc := 55) .int dX11_plan_55 rfl (by first | rfl | assumption) ?_
        first | exact Or.inr ⟨c_5, by unfold planV; rw [if_neg c_31], hB_17, hS_12.trans S_17⟩ | exact Or.inr ⟨c_5, by unfold planV; rw [if_pos c_31, if_pos (by omega)], hB_17, hS_12.trans S_17⟩ | exact Or.inr ⟨c_5, by unfold planV; rw [if_pos c_31, if_neg (by omega)], hB_17, hS_12.trans S_17⟩
    · try simp only [b01_0, bz_0, Classical.not_not] at c_31
      refine rj_iconst (pc := 34) dX11_plan_34 ?_
      refine r_goto (pc := 35) (tgt := 55) dX11_plan_35 (by decide) ?_
      refine r_ireturn (pc := 55) .int dX11_plan_55 rfl (by first | rfl | assumption) ?_
      first | exact Or.inr ⟨c_5, by unfold planV; rw [if_neg c_31], hB_17, hS_12.trans S_17⟩ | exact Or.inr ⟨c_5, by unfold planV; rw [if_pos c_31, if_pos (by omega)], hB_17, hS_12.trans S_17⟩ | exact Or.inr ⟨c_5, by unfold planV; rw [if_pos c_31, if_neg (by omega)], hB_17, hS_12.trans S_17⟩
  · try simp only [b01_0, bz_0, Classical.not_not] at c_5
    refine rj_iconst (pc := 8) dX11_plan_8 ?_
    refine r_ireturn (pc := 9) .int dX11_plan_9 rfl (by first | rfl | assumption) ?_
    exact Or.inl ⟨c_5, rfl, rfl⟩

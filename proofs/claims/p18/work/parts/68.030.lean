section mg_72
set_option maxHeartbeats 4000000 in
set_option maxRecDepth 100000 in
theorem m_close {G : mG} {l : Launch} {x s : Nat} {f4 f6 f8 f9 f10 f11 f12 f13 f14 f16 f18 : Int} {kp was pool tape pln pap rwd rw : Nat → Int} (hPo : ∀ q, InR (pool q)) {m m' : Nat → Int} {h : mH} (hB : isM h x (mFs x f4 f6 f8 f9 f10 f11 f12 f13 f14 f16 f18 s) m kp was pool tape pln pap rwd rw) (hok : mOk m) {t : Int} (ht : InR t) (hR : closeDo m t → closesR pool (-1) 91 (updI m 5 0) t.toNat m') : RUNM G l 400 mX11_close [.ref x, .int (J t)] h (fun v h' => (¬ closeDo m t ∧ v = some (.int (J (closeN m t))) ∧ h' = h) ∨ (closeDo m t ∧ v = some (.int (J (m' 5))) ∧ isM h' x (mFs x f4 f6 f8 f9 f10 f11 f12 f13 (-1) f16 f18 s) m' kp was pool tape pln pap rwd rw ∧ Same (mBlk x) h h')) := by
  obtain ⟨hM, k0, k1, k2, k3, k4, k5, k7⟩ := id hok
  have hB0 := hB
  dsimp only [mFs] at hB
  refine RUNM.of (by decide +kernel) (Nat.le_of_ble_eq_true rfl) ?_
  refine r_aload_n (pc := 0) dX11_close_0 rfl (by first | rfl | exact isRefV_rf _) ?_
  refine r_iload_n (pc := 1) dX11_close_1 rfl ?_
  refine r_callV1 (pc := 2) dX11_close_2 qX11_isThing kX11_238 vX11_isThing (by exact isM.gx (by assumption)) rfl rfl (Nat.le_of_ble_eq_true rfl) ((m_isThing 0 hB0 ht ⟨by omega, by omega⟩).deeper (by omega)) (fun v_2 h_2 q_2 => ?_)
  obtain ⟨rfl, rfl⟩ := q_2
  refine rj_if_ne (pc := 5) (tgt := 10) dX11_close_5 (by decide) (by first | assumption | exact b01_r | exact bz_r | omega | (constructor <;> omega) | exact hM _ | exact hPo _ | exact hTa _ | exact hRo _) (fun c_5 => ?_) (fun c_5 => ?_)
  · try simp only [b01_0, bz_0, Classical.not_not] at c_5
    refine r_aload_n (pc := 10) dX11_close_10 rfl (by first | rfl | exact isRefV_rf _) ?_
    refine r_iload_n (pc := 11) dX11_close_11 rfl ?_
    refine r_callV1 (pc := 12) dX11_close_12 qX11_isHeld kX11_119 vX11_isHeld (by exact isM.gx (by assumption)) rfl rfl (Nat.le_of_ble_eq_true rfl) ((m_isHeld 0 hB0 hM (by omega) (by omega)).deeper (by omega)) (fun v_12 h_12 q_12 => ?_)
    obtain ⟨rfl, rfl⟩ := q_12
    refine rj_if_ne (pc := 15) (tgt := 21) dX11_close_15 (by decide) (by first | assumption | exact b01_r | exact bz_r | omega | (constructor <;> omega) | exact hM _ | exact hPo _ | exact hTa _ | exact hRo _) (fun c_15 => ?_) (fun c_15 => ?_)
    · try simp only [b01_0, bz_0, Classical.not_not] at c_15
      refine r_aload_n (pc := 21) dX11_close_21 rfl (by first | rfl | exact isRefV_rf _) ?_
      refine rj_iconst (pc := 22) dX11_close_22 ?_
      refine rm_putf (pc := 23) dX11_close_23 fX11_133 (by assumption) rfl rfl (Nat.le_of_ble_eq_true rfl) (fun h_23 hB_23 hS_23 => ?_)
      dsimp only [List.set, mFs] at hB_23
      refine r_aload_n (pc := 26) dX11_close_26 rfl (by first | rfl | exact isRefV_rf _) ?_
      refine rm_getf (pc := 27) dX11_close_27 fX11_11 (by assumption) rfl ?_
      refine rj_iconst (pc := 30) dX11_close_30 ?_
      refine rj_iconst (pc := 31) dX11_close_31 ?_
      first | refine rm_iast0 (pc := 32) (j := 5) dX11_close_32 (by assumption) (by first | assumption | exact b01_r | exact bz_r | omega | (constructor <;> omega) | exact hM _ | exact hPo _ | exact hTa _ | exact hRo _) (by first | assumption | exact b01_r | exact bz_r | omega | (constructor <;> omega) | exact hM _ | exact hPo _ | exact hTa _ | exact hRo _) (by first | assumption | exact b01_r | exact bz_r | omega | (constructor <;> omega) | exact hM _ | exact hPo _ | exact hTa _ | exact hRo _) (by omega) (fun h_32 hB_32 hS_32 => ?_)
      refine r_aload_n (pc := 33) dX11_close_33 rfl (by first | rfl | exact isRefV_rf _) ?_
      refine r_iload_n (pc := 34) dX11_close_34 rfl ?_
      refine r_callV1 (pc := 35) dX11_close_35 qX11_closes kX11_153 vX11_closes (by exact isM.gx (by assumption)) rfl rfl (Nat.le_of_ble_eq_true rfl) (by have y := m_closes (G := G) (l := l) hPo (by decide) 91 _ m' t.toNat _ hB_32 (hR ⟨c_5, c_15⟩); rw [show ((t.toNat : Nat) : Int) = t by omega] at y; exact y.deeper (by omega)) (fun v_35 h_35 q_35 => ?_)
      obtain ⟨rfl, hB_35, S_35⟩ := q_35
      refine r_aload_n (pc := 38) dX11_close_38 rfl (by first | rfl | exact isRefV_rf _) ?_
      refine rm_getf (pc := 39) dX11_close_39 fX11_11 (by assumption) rfl ?_
      refine rj_iconst (pc := 42) dX11_close_42 ?_
      refine rj_iald (pc := 43) (j := 5) dX11_close_43 (by first | exact isM.g0 (by assumption) | exact isM.g3 (by assumption) | exact isM.g4 (by assumption) | exact isM.g8 (by assumption) | exact isM.g7 (by assumption) | exact isM.g6 (by assumption) | exact isM.g5 (by assumption) | exact isM.g1 (by assumption) | exact isM.g2 (by assumption)) (by first | assumption | exact b01_r | exact bz_r | omega | (constructor <;> omega) | exact hM _ | exact hPo _ | exact hTa _ | exact hRo _) (by first | assumption | exact b01_r | exact bz_r | omega | (constructor <;> omega) | exact hM _ | exact hPo _ | exact hTa _ | exact hRo _) (by first | assumption | exact b01_r | exact bz_r | omega | (constructor <;> omega) | exact hM _ | exact hPo _ | exact hTa _ | exact hRo _) (by omega) ?_
      refine r_ireturn (pc := 44) .int dX11_close_44 rfl (by first | rfl | assumption) ?_
      exact Or.inr ⟨⟨c_5, c_15⟩, rfl, hB_35, (hS_23.trans hS_32).trans S_35⟩
    · try simp only [b01_0, bz_0, Classical.not_not] at c_15
      refine rj_bipush (pc := 18) dX11_close_18 (by decide +kernel) ?_
      refine r_ireturn (pc := 20) .int dX11_close_20 rfl (by first | rfl | assumption) ?_
      exact Or.inl ⟨fun g => c_15 g.2, by rw [show closeN m t = -3 from if_pos c_5], rfl⟩
  · try simp only [b01_0, bz_0, Classical.not_not] at c_5
    refine rj_iconst (pc := 8) dX11_close_8 ?_
    refine r_ireturn (pc := 9) .int dX11_close_9 rfl (by first | rfl | assumption) ?_
    exact Or.inl ⟨fun g => c_5 g.1, by rw [show closeN m t = -1 from if_neg c_5], rfl⟩
end mg_72

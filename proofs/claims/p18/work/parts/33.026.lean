section mg_36
set_option maxHeartbeats 4000000 in
set_option maxRecDepth 100000 in
theorem m_cancel {G : mG} {l : Launch} (d : Nat) {h : mH} {x s : Nat} {f4 f6 f8 f9 f10 f11 f12 f13 f14 f16 f18 : Int} {m kp was pool tape pln pap rwd rw : Nat → Int}(hB : isM h x (mFs x f4 f6 f8 f9 f10 f11 f12 f13 f14 f16 f18 s) m kp was pool tape pln pap rwd rw) (hM : ∀ q, InR (m q)) (h3 : 0 ≤ m 3 ∧ m 3 ≤ 10) {t : Int} (ht : InR t) : RUNM G l (d + 3) mX11_cancel [.ref x, .int (J t)] h (fun v h' => v = some (.int (J (cancelV m t))) ∧ ((¬ canDo m t ∧ h' = h) ∨ (canDo m t ∧ isM h' x (mFs x f4 f6 f8 f9 f10 f11 f12 f13 f14 f16 f18 s) (updI m (1614 + 72 * t).toNat 1) kp was pool tape pln pap rwd rw ∧ Same (mBlk x) h h'))) := by
  have hB0 := hB
  dsimp only [mFs] at hB
  refine RUNM.of (by decide +kernel) (Nat.le_of_ble_eq_true rfl) ?_
  refine r_aload_n (pc := 0) dX11_cancel_0 rfl (by first | rfl | exact isRefV_rf _) ?_
  refine r_iload_n (pc := 1) dX11_cancel_1 rfl ?_
  refine r_callV1 (pc := 2) dX11_cancel_2 qX11_isTask kX11_180 vX11_isTask (by exact isM.gx (by assumption)) rfl rfl (Nat.le_of_ble_eq_true rfl) (m_isTask (d + 1) hB0 ht ⟨by omega, by omega⟩) (fun v_2 h_2 q_2 => ?_)
  obtain ⟨rfl, rfl⟩ := q_2
  refine rj_if_ne (pc := 5) (tgt := 10) dX11_cancel_5 (by decide) (by first | assumption | exact b01_r | exact bz_r | omega | (constructor <;> omega) | exact hM _ | exact hPo _ | exact hTa _ | exact hRo _) (fun c_5 => ?_) (fun c_5 => ?_)
  · try simp only [b01_0, bz_0, Classical.not_not] at c_5
    refine r_aload_n (pc := 10) dX11_cancel_10 rfl (by first | rfl | exact isRefV_rf _) ?_
    refine r_iload_n (pc := 11) dX11_cancel_11 rfl ?_
    refine r_callV1 (pc := 12) dX11_cancel_12 qX11_isReady kX11_183 vX11_isReady (by exact isM.gx (by assumption)) rfl rfl (Nat.le_of_ble_eq_true rfl) (m_isReady (d + 1) hB0 hM (by omega) (by omega)) (fun v_12 h_12 q_12 => ?_)
    obtain ⟨rfl, rfl⟩ := q_12
    refine rj_if_ne (pc := 15) (tgt := 21) dX11_cancel_15 (by decide) (by first | assumption | exact b01_r | exact bz_r | omega | (constructor <;> omega) | exact hM _ | exact hPo _ | exact hTa _ | exact hRo _) (fun c_15 => ?_) (fun c_15 => ?_)
    · try simp only [b01_0, bz_0, Classical.not_not] at c_15
      refine r_aload_n (pc := 21) dX11_cancel_21 rfl (by first | rfl | exact isRefV_rf _) ?_
      refine rm_getf (pc := 22) dX11_cancel_22 fX11_11 (by assumption) rfl ?_
      refine r_iload_n (pc := 25) dX11_cancel_25 rfl ?_
      refine rj_bipush (pc := 26) dX11_cancel_26 (by decide +kernel) ?_
      refine rj_iconst (pc := 28) dX11_cancel_28 ?_
      refine r_callS3 (pc := 29) dX11_cancel_29 qX11_ofTask kX11_58 sX11_ofTask (Nat.le_of_ble_eq_true rfl) (m_ofTask (d + 2)) (fun v_29 h_29 q_29 => ?_)
      obtain ⟨rfl, rfl⟩ := q_29
      refine rj_iald (pc := 32) (j := (1614 + 72 * t).toNat) dX11_cancel_32 (by first | exact isM.g0 (by assumption) | exact isM.g3 (by assumption) | exact isM.g4 (by assumption) | exact isM.g8 (by assumption) | exact isM.g7 (by assumption) | exact isM.g6 (by assumption) | exact isM.g5 (by assumption) | exact isM.g1 (by assumption) | exact isM.g2 (by assumption)) (by first | assumption | exact b01_r | exact bz_r | omega | (constructor <;> omega) | exact hM _ | exact hPo _ | exact hTa _ | exact hRo _) (by first | assumption | exact b01_r | exact bz_r | omega | (constructor <;> omega) | exact hM _ | exact hPo _ | exact hTa _ | exact hRo _) (by first | assumption | exact b01_r | exact bz_r | omega | (constructor <;> omega) | exact hM _ | exact hPo _ | exact hTa _ | exact hRo _) (by omega) ?_
      refine r_istore_n (pc := 33) dX11_cancel_33 (Nat.le_of_ble_eq_true rfl) ?_
      dsimp only [lsSt, List.set, mLs, mEnt]
      refine r_aload_n (pc := 34) dX11_cancel_34 rfl (by first | rfl | exact isRefV_rf _) ?_
      refine rm_getf (pc := 35) dX11_cancel_35 fX11_11 (by assumption) rfl ?_
      refine r_iload_n (pc := 38) dX11_cancel_38 rfl ?_
      refine rj_bipush (pc := 39) dX11_cancel_39 (by decide +kernel) ?_
      refine rj_iconst (pc := 41) dX11_cancel_41 ?_
      refine r_callS3 (pc := 42) dX11_cancel_42 qX11_ofTask kX11_58 sX11_ofTask (Nat.le_of_ble_eq_true rfl) (m_ofTask (d + 2)) (fun v_42 h_42 q_42 => ?_)
      obtain ⟨rfl, rfl⟩ := q_42
      refine rj_iconst (pc := 45) dX11_cancel_45 ?_
      first | refine rm_iast0 (pc := 46) (j := (1614 + 72 * t).toNat) dX11_cancel_46 (by assumption) (by first | assumption | exact b01_r | exact bz_r | omega | (constructor <;> omega) | exact hM _ | exact hPo _ | exact hTa _ | exact hRo _) (by first | assumption | exact b01_r | exact bz_r | omega | (constructor <;> omega) | exact hM _ | exact hPo _ | exact hTa _ | exact hRo _) (by first | assumption | exact b01_r | exact bz_r | omega | (constructor <;> omega) | exact hM _ | exact hPo _ | exact hTa _ | exact hRo _) (by omega) (fun h_46 hB_46 hS_46 => ?_)
      refine rj_iconst (pc := 47) dX11_cancel_47 ?_
      refine r_iload_n (pc := 48) dX11_cancel_48 rfl ?_
      refine rj_isub (pc := 49) dX11_cancel_49 ?_
      refine r_ireturn (pc := 50) .int dX11_cancel_50 rfl (by first | rfl | assumption) ?_
      exact ⟨by unfold cancelV; rw [if_pos c_5, if_pos c_15], Or.inr ⟨⟨c_5, c_15⟩, hB_46, hS_46⟩⟩
    · try simp only [b01_0, bz_0, Classical.not_not] at c_15
      refine rj_bipush (pc := 18) dX11_cancel_18 (by decide +kernel) ?_
      refine r_ireturn (pc := 20) .int dX11_cancel_20 rfl (by first | rfl | assumption) ?_
      exact ⟨by unfold cancelV; rw [if_pos c_5, if_neg c_15], Or.inl ⟨fun g => c_15 g.2, rfl⟩⟩
  · try simp only [b01_0, bz_0, Classical.not_not] at c_5
    refine rj_iconst (pc := 8) dX11_cancel_8 ?_
    refine r_ireturn (pc := 9) .int dX11_cancel_9 rfl (by first | rfl | assumption) ?_
    exact ⟨by unfold cancelV; rw [if_neg c_5], Or.inl ⟨fun g => c_5 g.1, rfl⟩⟩
end mg_36

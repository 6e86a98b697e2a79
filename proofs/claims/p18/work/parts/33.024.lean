section mg_36
set_option maxHeartbeats 4000000 in
set_option maxRecDepth 100000 in
theorem m_count {G : mG} {l : Launch} (d : Nat) {h : mH} {x s : Nat} {f4 f6 f8 f9 f10 f11 f12 f13 f14 f16 f18 : Int} {m kp was pool tape pln pap rwd rw : Nat → Int}(hB : isM h x (mFs x f4 f6 f8 f9 f10 f11 f12 f13 f14 f16 f18 s) m kp was pool tape pln pap rwd rw) {k e : Int} (hk : InR k) : RUNM G l (d + 1) mX11_count [.ref x, .int (J k), .int (J e)] h (fun v h' => v = some (.int (J (countV m k e))) ∧ ((¬ (0 ≤ k ∧ k ≤ 7) ∧ h' = h) ∨ ((0 ≤ k ∧ k ≤ 7) ∧ isM h' x (mFs x f4 f6 f8 f9 f10 f11 f12 f13 f14 f16 f18 s) (updI m (10 + k).toNat (countV m k e)) kp was pool tape pln pap rwd rw ∧ Same (mBlk x) h h'))) := by
  dsimp only [mFs] at hB
  refine RUNM.of (by decide +kernel) (Nat.le_of_ble_eq_true rfl) ?_
  refine r_iload_n (pc := 0) dX11_count_0 rfl ?_
  refine rj_iconst (pc := 1) dX11_count_1 ?_
  refine rj_bipush (pc := 2) dX11_count_2 (by decide +kernel) ?_
  refine r_callS3 (pc := 4) dX11_count_4 qX11_isIn kX11_46 sX11_isIn (Nat.le_of_ble_eq_true rfl) (m_isIn d hk (by decide) (by decide)) (fun v_4 h_4 q_4 => ?_)
  obtain ⟨rfl, rfl⟩ := q_4
  refine rj_if_ne (pc := 7) (tgt := 12) dX11_count_7 (by decide) (by first | assumption | exact b01_r | exact bz_r | omega | (constructor <;> omega) | exact hM _ | exact hPo _ | exact hTa _ | exact hRo _) (fun c_7 => ?_) (fun c_7 => ?_)
  · try simp only [b01_0, bz_0, Classical.not_not] at c_7
    refine r_aload_n (pc := 12) dX11_count_12 rfl (by first | rfl | exact isRefV_rf _) ?_
    refine rm_getf (pc := 13) dX11_count_13 fX11_11 (by assumption) rfl ?_
    refine rj_bipush (pc := 16) dX11_count_16 (by decide +kernel) ?_
    refine r_iload_n (pc := 18) dX11_count_18 rfl ?_
    refine rj_iadd (pc := 19) dX11_count_19 ?_
    refine r_dup2 (pc := 20) dX11_count_20 rfl rfl ?_
    refine rj_iald (pc := 21) (j := (10 + k).toNat) dX11_count_21 (by first | exact isM.g0 (by assumption) | exact isM.g3 (by assumption) | exact isM.g4 (by assumption) | exact isM.g8 (by assumption) | exact isM.g7 (by assumption) | exact isM.g6 (by assumption) | exact isM.g5 (by assumption) | exact isM.g1 (by assumption) | exact isM.g2 (by assumption)) (by first | assumption | exact b01_r | exact bz_r | omega | (constructor <;> omega) | exact hM _ | exact hPo _ | exact hTa _ | exact hRo _) (by first | assumption | exact b01_r | exact bz_r | omega | (constructor <;> omega) | exact hM _ | exact hPo _ | exact hTa _ | exact hRo _) (by first | assumption | exact b01_r | exact bz_r | omega | (constructor <;> omega) | exact hM _ | exact hPo _ | exact hTa _ | exact hRo _) rfl ?_
    refine r_iload_n (pc := 22) dX11_count_22 rfl ?_
    refine rj_iadd (pc := 23) dX11_count_23 ?_
    have e1 : countV m k e = wrap (m (10 + k).toNat + e) := by unfold countV; rw [if_pos c_7]
    rw [J_wrap (m (10 + k).toNat + e), ← e1]
    first | refine rm_iast0 (pc := 24) (j := (10 + k).toNat) dX11_count_24 (by assumption) (by first | assumption | exact b01_r | exact bz_r | omega | (constructor <;> omega) | exact hM _ | exact hPo _ | exact hTa _ | exact hRo _) (by first | assumption | exact b01_r | exact bz_r | omega | (constructor <;> omega) | exact hM _ | exact hPo _ | exact hTa _ | exact hRo _) (by first | assumption | exact b01_r | exact bz_r | omega | (constructor <;> omega) | exact hM _ | exact hPo _ | exact hTa _ | exact hRo _) (by omega) (fun h_24 hB_24 hS_24 => ?_)
    refine r_aload_n (pc := 25) dX11_count_25 rfl (by first | rfl | exact isRefV_rf _) ?_
    refine rm_getf (pc := 26) dX11_count_26 fX11_11 (by assumption) rfl ?_
    refine rj_bipush (pc := 29) dX11_count_29 (by decide +kernel) ?_
    refine r_iload_n (pc := 31) dX11_count_31 rfl ?_
    refine rj_iadd (pc := 32) dX11_count_32 ?_
    refine rj_iald (pc := 33) (j := (10 + k).toNat) dX11_count_33 (by first | exact isM.g0 (by assumption) | exact isM.g3 (by assumption) | exact isM.g4 (by assumption) | exact isM.g8 (by assumption) | exact isM.g7 (by assumption) | exact isM.g6 (by assumption) | exact isM.g5 (by assumption) | exact isM.g1 (by assumption) | exact isM.g2 (by assumption)) (by first | assumption | exact b01_r | exact bz_r | omega | (constructor <;> omega) | exact hM _ | exact hPo _ | exact hTa _ | exact hRo _) (by first | assumption | exact b01_r | exact bz_r | omega | (constructor <;> omega) | exact hM _ | exact hPo _ | exact hTa _ | exact hRo _) (by first | assumption | exact b01_r | exact bz_r | omega | (constructor <;> omega) | exact hM _ | exact hPo _ | exact hTa _ | exact hRo _) (by omega) ?_
    rw [updI_s]
    refine r_ireturn (pc := 34) .int dX11_count_34 rfl (by first | rfl | assumption) ?_
    exact ⟨rfl, Or.inr ⟨c_7, hB_24, hS_24⟩⟩
  · try simp only [b01_0, bz_0, Classical.not_not] at c_7
    refine rj_iconst (pc := 10) dX11_count_10 ?_
    refine r_ireturn (pc := 11) .int dX11_count_11 rfl (by first | rfl | assumption) ?_
    exact ⟨by unfold countV; rw [if_neg c_7], Or.inl ⟨c_7, rfl⟩⟩
end mg_36

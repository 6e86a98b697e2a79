section mg_33
set_option maxHeartbeats 4000000 in
set_option maxRecDepth 100000 in
theorem m_set {G : mG} {l : Launch} (d : Nat) {h : mH} {x s : Nat} {f4 f6 f8 f9 f10 f11 f12 f13 f14 f16 f18 : Int} {m kp was pool tape pln pap rwd rw : Nat → Int}(hB : isM h x (mFs x f4 f6 f8 f9 f10 f11 f12 f13 f14 f16 f18 s) m kp was pool tape pln pap rwd rw) (hRo : ∀ q, InR (rwd q)) {a : Int} (ha : InR a) {i e : Int} (hi : InR i) (h40 : ∀ q, rwd q ≤ 40) : RUNM G l (d + 3) mX11_set [.ref x, .int (J a), .int (J i), .int (J e)] h (fun v h' => v = some (.int (J (setV rwd a i))) ∧ ((¬ setV rwd a i = 1 ∧ h' = h) ∨ (setV rwd a i = 1 ∧ isM h' x (mFs x f4 f6 f8 f9 f10 f11 f12 f13 f14 f16 f18 s) m kp was pool tape pln pap rwd (updI rw (40 * a + i).toNat e) ∧ Same (mBlk x) h h'))) := by
  have hB0 := hB
  dsimp only [mFs] at hB
  refine RUNM.of (by decide +kernel) (Nat.le_of_ble_eq_true rfl) ?_
  refine r_aload_n (pc := 0) dX11_set_0 rfl (by first | rfl | exact isRefV_rf _) ?_
  refine r_iload_n (pc := 1) dX11_set_1 rfl ?_
  refine r_callV1 (pc := 2) dX11_set_2 qX11_wrong kX11_307 vX11_wrong (by exact isM.gx (by assumption)) rfl rfl (Nat.le_of_ble_eq_true rfl) (m_wrong d hB0 hRo ha) (fun v_2 h_2 q_2 => ?_)
  obtain ⟨rfl, rfl⟩ := q_2
  refine r_istore (pc := 5) dX11_set_5 (Nat.le_of_ble_eq_true rfl) ?_
  dsimp only [lsSt, List.set, mLs, mEnt]
  refine r_iload (pc := 7) dX11_set_7 rfl ?_
  have wr := wrong_r (rwd := rwd) (a := a)
  refine rj_if_eq (pc := 9) (tgt := 15) dX11_set_9 (by decide) (by first | assumption | exact b01_r | exact bz_r | omega | (constructor <;> omega) | exact hM _ | exact hPo _ | exact hTa _ | exact hRo _) (fun c_9 => ?_) (fun c_9 => ?_)
  · try simp only [b01_0, bz_0, Classical.not_not] at c_9
    have w0 := wrong_0 c_9
    have r4 := h40 a.toNat
    refine r_iload_n (pc := 15) dX11_set_15 rfl ?_
    refine rj_iconst (pc := 16) dX11_set_16 ?_
    refine r_aload_n (pc := 17) dX11_set_17 rfl (by first | rfl | exact isRefV_rf _) ?_
    refine rm_getf (pc := 18) dX11_set_18 fX11_36 (by assumption) rfl ?_
    refine r_iload_n (pc := 21) dX11_set_21 rfl ?_
    refine rj_iald (pc := 22) dX11_set_22 (by first | exact isM.g0 (by assumption) | exact isM.g3 (by assumption) | exact isM.g4 (by assumption) | exact isM.g8 (by assumption) | exact isM.g7 (by assumption) | exact isM.g6 (by assumption) | exact isM.g5 (by assumption) | exact isM.g1 (by assumption) | exact isM.g2 (by assumption)) (by first | assumption | exact b01_r | exact bz_r | omega | (constructor <;> omega) | exact hM _ | exact hPo _ | exact hTa _ | exact hRo _) (by first | assumption | exact b01_r | exact bz_r | omega | (constructor <;> omega) | exact hM _ | exact hPo _ | exact hTa _ | exact hRo _) (by first | assumption | exact b01_r | exact bz_r | omega | (constructor <;> omega) | exact hM _ | exact hPo _ | exact hTa _ | exact hRo _) rfl ?_
    refine rj_iconst (pc := 23) dX11_set_23 ?_
    refine rj_isub (pc := 24) dX11_set_24 ?_
    refine r_callS3 (pc := 25) dX11_set_25 qX11_isIn kX11_46 sX11_isIn (Nat.le_of_ble_eq_true rfl) (m_isIn (d + 2) hi (by decide) ⟨by omega, by omega⟩) (fun v_25 h_25 q_25 => ?_)
    obtain ⟨rfl, rfl⟩ := q_25
    refine rj_if_ne (pc := 28) (tgt := 34) dX11_set_28 (by decide) (by first | assumption | exact b01_r | exact bz_r | omega | (constructor <;> omega) | exact hM _ | exact hPo _ | exact hTa _ | exact hRo _) (fun c_28 => ?_) (fun c_28 => ?_)
    · try simp only [b01_0, bz_0, Classical.not_not] at c_28
      refine r_aload_n (pc := 34) dX11_set_34 rfl (by first | rfl | exact isRefV_rf _) ?_
      refine rm_getf (pc := 35) dX11_set_35 fX11_39 (by assumption) rfl ?_
      refine rj_bipush (pc := 38) dX11_set_38 (by decide +kernel) ?_
      refine r_iload_n (pc := 40) dX11_set_40 rfl ?_
      refine rj_imul (pc := 41) dX11_set_41 ?_
      refine r_iload_n (pc := 42) dX11_set_42 rfl ?_
      refine rj_iadd (pc := 43) dX11_set_43 ?_
      refine r_iload_n (pc := 44) dX11_set_44 rfl ?_
      first | refine rm_iast8 (pc := 45) (j := (40 * a + i).toNat) dX11_set_45 (by assumption) (by first | assumption | exact b01_r | exact bz_r | omega | (constructor <;> omega) | exact hM _ | exact hPo _ | exact hTa _ | exact hRo _) (by first | assumption | exact b01_r | exact bz_r | omega | (constructor <;> omega) | exact hM _ | exact hPo _ | exact hTa _ | exact hRo _) (by first | assumption | exact b01_r | exact bz_r | omega | (constructor <;> omega) | exact hM _ | exact hPo _ | exact hTa _ | exact hRo _) (by omega) (fun h_45 hB_45 hS_45 => ?_)
      refine rj_iconst (pc := 46) dX11_set_46 ?_
      refine r_ireturn (pc := 47) .int dX11_set_47 rfl (by first | rfl | assumption) ?_
      have e1 : setV rwd a i = 1 := by unfold setV; rw [if_pos c_9, if_pos c_28]
      exact ⟨by rw [e1], Or.inr ⟨e1, hB_45, hS_45⟩⟩
    · try simp only [b01_0, bz_0, Classical.not_not] at c_28
      refine rj_bipush (pc := 31) dX11_set_31 (by decide +kernel) ?_
      refine r_ireturn (pc := 33) .int dX11_set_33 rfl (by first | rfl | assumption) ?_
      have e1 : setV rwd a i = -13 := by unfold setV; rw [if_pos c_9, if_neg c_28]
      exact ⟨by rw [e1], Or.inl ⟨by rw [e1]; decide, rfl⟩⟩
  · try simp only [b01_0, bz_0, Classical.not_not] at c_9
    refine r_iload (pc := 12) dX11_set_12 rfl ?_
    refine r_ireturn (pc := 14) .int dX11_set_14 rfl (by first | rfl | assumption) ?_
    exact ⟨by unfold setV; rw [if_neg c_9], Or.inl ⟨by unfold setV; rw [if_neg c_9]; unfold wrongV; split <;> (try split) <;> decide, rfl⟩⟩
end mg_33

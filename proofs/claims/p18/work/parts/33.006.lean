section mg_33
set_option maxHeartbeats 4000000 in
set_option maxRecDepth 100000 in
theorem m_log {G : mG} {l : Launch} (d : Nat) {h : mH} {x s : Nat} {f4 f6 f8 f9 f10 f11 f12 f13 f14 f16 f18 : Int} {m kp was pool tape pln pap rwd rw : Nat → Int}(hB : isM h x (mFs x f4 f6 f8 f9 f10 f11 f12 f13 f14 f16 f18 s) m kp was pool tape pln pap rwd rw) {i : Int} (hi : InR i) (h0 : 0 ≤ m 2) (h1 : m 2 ≤ 90) : RUNM G l (d + 1) mX11_log [.ref x, .int (J i)] h (fun v h' => v = some (.int (J (logV m i))) ∧ h' = h) := by
  dsimp only [mFs] at hB
  refine RUNM.of (by decide +kernel) (Nat.le_of_ble_eq_true rfl) ?_
  refine r_iload_n (pc := 0) dX11_log_0 rfl ?_
  refine rj_iconst (pc := 1) dX11_log_1 ?_
  refine r_aload_n (pc := 2) dX11_log_2 rfl (by first | rfl | exact isRefV_rf _) ?_
  refine rm_getf (pc := 3) dX11_log_3 fX11_11 (by assumption) rfl ?_
  refine rj_iconst (pc := 6) dX11_log_6 ?_
  refine rj_iald (pc := 7) (j := 2) dX11_log_7 (by first | exact isM.g0 (by assumption) | exact isM.g3 (by assumption) | exact isM.g4 (by assumption) | exact isM.g8 (by assumption) | exact isM.g7 (by assumption) | exact isM.g6 (by assumption) | exact isM.g5 (by assumption) | exact isM.g1 (by assumption) | exact isM.g2 (by assumption)) (by first | assumption | exact b01_r | exact bz_r | omega | (constructor <;> omega) | exact hM _ | exact hPo _ | exact hTa _ | exact hRo _) (by first | assumption | exact b01_r | exact bz_r | omega | (constructor <;> omega) | exact hM _ | exact hPo _ | exact hTa _ | exact hRo _) (by first | assumption | exact b01_r | exact bz_r | omega | (constructor <;> omega) | exact hM _ | exact hPo _ | exact hTa _ | exact hRo _) rfl ?_
  refine rj_iconst (pc := 8) dX11_log_8 ?_
  refine rj_isub (pc := 9) dX11_log_9 ?_
  refine r_callS3 (pc := 10) dX11_log_10 qX11_isIn kX11_46 sX11_isIn (Nat.le_of_ble_eq_true rfl) (m_isIn d hi (by decide) ⟨by omega, by omega⟩) (fun v_10 h_10 q_10 => ?_)
  obtain ⟨rfl, rfl⟩ := q_10
  refine rj_if_eq (pc := 13) (tgt := 29) dX11_log_13 (by decide) (by first | assumption | exact b01_r | exact bz_r | omega | (constructor <;> omega) | exact hM _ | exact hPo _ | exact hTa _ | exact hRo _) (fun c_13 => ?_) (fun c_13 => ?_)
  · try simp only [b01_0, bz_0, Classical.not_not] at c_13
    refine rj_iconst (pc := 29) dX11_log_29 ?_
    refine r_ireturn (pc := 30) .int dX11_log_30 rfl (by first | rfl | assumption) ?_
    first
    | exact ⟨by unfold logV; rw [if_pos c_13], rfl⟩
    | exact ⟨by unfold logV; rw [if_neg c_13], rfl⟩
  · try simp only [b01_0, bz_0, Classical.not_not] at c_13
    refine r_aload_n (pc := 16) dX11_log_16 rfl (by first | rfl | exact isRefV_rf _) ?_
    refine rm_getf (pc := 17) dX11_log_17 fX11_11 (by assumption) rfl ?_
    refine rj_sipush (pc := 20) dX11_log_20 (by decide +kernel) ?_
    refine r_iload_n (pc := 23) dX11_log_23 rfl ?_
    refine rj_iadd (pc := 24) dX11_log_24 ?_
    refine rj_iald (pc := 25) dX11_log_25 (by first | exact isM.g0 (by assumption) | exact isM.g3 (by assumption) | exact isM.g4 (by assumption) | exact isM.g8 (by assumption) | exact isM.g7 (by assumption) | exact isM.g6 (by assumption) | exact isM.g5 (by assumption) | exact isM.g1 (by assumption) | exact isM.g2 (by assumption)) (by first | assumption | exact b01_r | exact bz_r | omega | (constructor <;> omega) | exact hM _ | exact hPo _ | exact hTa _ | exact hRo _) (by first | assumption | exact b01_r | exact bz_r | omega | (constructor <;> omega) | exact hM _ | exact hPo _ | exact hTa _ | exact hRo _) (by first | assumption | exact b01_r | exact bz_r | omega | (constructor <;> omega) | exact hM _ | exact hPo _ | exact hTa _ | exact hRo _) rfl ?_
    refine r_goto (pc := 26) (tgt := 30) dX11_log_26 (by decide) ?_
    refine r_ireturn (pc := 30) .int dX11_log_30 rfl (by first | rfl | assumption) ?_
    first
    | exact ⟨by unfold logV; rw [if_pos c_13], rfl⟩
    | exact ⟨by unfold logV; rw [if_neg c_13], rfl⟩
end mg_33

section mg_33
set_option maxHeartbeats 4000000 in
set_option maxRecDepth 100000 in
theorem m_wrong {G : mG} {l : Launch} (d : Nat) {h : mH} {x s : Nat} {f4 f6 f8 f9 f10 f11 f12 f13 f14 f16 f18 : Int} {m kp was pool tape pln pap rwd rw : Nat → Int}(hB : isM h x (mFs x f4 f6 f8 f9 f10 f11 f12 f13 f14 f16 f18 s) m kp was pool tape pln pap rwd rw) (hRo : ∀ q, InR (rwd q)) {a : Int} (ha : InR a) : RUNM G l (d + 2) mX11_wrong [.ref x, .int (J a)] h (fun v h' => v = some (.int (J (wrongV rwd a))) ∧ h' = h) := by
  dsimp only [mFs] at hB
  refine RUNM.of (by decide +kernel) (Nat.le_of_ble_eq_true rfl) ?_
  refine r_iload_n (pc := 0) dX11_wrong_0 rfl ?_
  refine r_callS1 (pc := 1) dX11_wrong_1 qX11_isRow kX11_304 sX11_isRow (Nat.le_of_ble_eq_true rfl) (m_isRow d ha) (fun v_1 h_1 q_1 => ?_)
  obtain ⟨rfl, rfl⟩ := q_1
  refine rj_if_ne (pc := 4) (tgt := 11) dX11_wrong_4 (by decide) (by first | assumption | exact b01_r | exact bz_r | omega | (constructor <;> omega) | exact hM _ | exact hPo _ | exact hTa _ | exact hRo _) (fun c_4 => ?_) (fun c_4 => ?_)
  · try simp only [b01_0, bz_0, Classical.not_not] at c_4
    refine r_aload_n (pc := 11) dX11_wrong_11 rfl (by first | rfl | exact isRefV_rf _) ?_
    refine rm_getf (pc := 12) dX11_wrong_12 fX11_36 (by assumption) rfl ?_
    refine r_iload_n (pc := 15) dX11_wrong_15 rfl ?_
    refine rj_iald (pc := 16) dX11_wrong_16 (by first | exact isM.g0 (by assumption) | exact isM.g3 (by assumption) | exact isM.g4 (by assumption) | exact isM.g8 (by assumption) | exact isM.g7 (by assumption) | exact isM.g6 (by assumption) | exact isM.g5 (by assumption) | exact isM.g1 (by assumption) | exact isM.g2 (by assumption)) (by first | assumption | exact b01_r | exact bz_r | omega | (constructor <;> omega) | exact hM _ | exact hPo _ | exact hTa _ | exact hRo _) (by first | assumption | exact b01_r | exact bz_r | omega | (constructor <;> omega) | exact hM _ | exact hPo _ | exact hTa _ | exact hRo _) (by first | assumption | exact b01_r | exact bz_r | omega | (constructor <;> omega) | exact hM _ | exact hPo _ | exact hTa _ | exact hRo _) rfl ?_
    refine rj_if_ge (pc := 17) (tgt := 25) dX11_wrong_17 (by decide) (by first | assumption | exact b01_r | exact bz_r | omega | (constructor <;> omega) | exact hM _ | exact hPo _ | exact hTa _ | exact hRo _) (fun c_17 => ?_) (fun c_17 => ?_)
    · refine rj_iconst (pc := 25) dX11_wrong_25 ?_
      refine r_ireturn (pc := 26) .int dX11_wrong_26 rfl (by first | rfl | assumption) ?_
      exact ⟨by unfold wrongV; first | rw [if_neg (by omega)] | (rw [if_pos (by omega), if_pos (by omega)]) | (rw [if_pos (by omega), if_neg (by omega)]), rfl⟩
    · refine rj_bipush (pc := 20) dX11_wrong_20 (by decide +kernel) ?_
      refine r_goto (pc := 22) (tgt := 26) dX11_wrong_22 (by decide) ?_
      refine r_ireturn (pc := 26) .int dX11_wrong_26 rfl (by first | rfl | assumption) ?_
      exact ⟨by unfold wrongV; first | rw [if_neg (by omega)] | (rw [if_pos (by omega), if_pos (by omega)]) | (rw [if_pos (by omega), if_neg (by omega)]), rfl⟩
  · try simp only [b01_0, bz_0, Classical.not_not] at c_4
    refine rj_iconst (pc := 7) dX11_wrong_7 ?_
    refine r_goto (pc := 8) (tgt := 26) dX11_wrong_8 (by decide) ?_
    refine r_ireturn (pc := 26) .int dX11_wrong_26 rfl (by first | rfl | assumption) ?_
    exact ⟨by unfold wrongV; first | rw [if_neg (by omega)] | (rw [if_pos (by omega), if_pos (by omega)]) | (rw [if_pos (by omega), if_neg (by omega)]), rfl⟩
end mg_33

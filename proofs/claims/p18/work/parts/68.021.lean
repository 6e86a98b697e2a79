section mg_71
set_option maxHeartbeats 4000000 in
set_option maxRecDepth 100000 in
theorem L_turn0 {G : mG} {l : Launch} {D : Nat} {x s : Nat} {f4 f6 f8 f9 f10 f11 f12 f13 f14 f16 f18 : Int} {kp was pool tape pln pap rwd rw : Nat → Int} {t : Nat} {m : Nat → Int} {h : mH} (hB : isM h x (mFs x f4 f6 f8 f9 f10 f11 f12 f13 f14 f16 f18 s) m kp was pool tape pln pap rwd rw) (ht : t ≤ 9) {Q : Option Value → mH → Prop} (K : ∀ h1, isM h1 x (mFs x f4 f6 f8 f9 f10 f11 f12 f13 (t : Int) f16 f18 s) (turnM m t) kp was pool tape pln pap rwd rw → Same (mBlk x) h h1 → RUN G l (D + 1) mX11_turn 49 [some (.ref x), some (.int (J (t : Int))), none, none, none, none] [] h1 Q) : RUN G l (D + 1) mX11_turn 0 [some (.ref x), some (.int (J (t : Int))), none, none, none, none] [] h Q := by
  have hB0 := hB
  dsimp only [mFs] at hB
  have e1 : updI m 7 (m 7 + 1) (1612 + 72 * t) = m (1612 + 72 * t) := updI_n (by omega)
  have e2 : updI (updI m 7 (m 7 + 1)) (1612 + 72 * t) (m (1612 + 72 * t) + 1) 7 = m 7 + 1 := (updI_n (by omega)).trans updI_s
  refine r_aload_n (pc := 0) dX11_turn_0 rfl (by first | rfl | exact isRefV_rf _) ?_
  refine r_iload_n (pc := 1) dX11_turn_1 rfl ?_
  refine rm_putf (pc := 2) dX11_turn_2 fX11_133 (by assumption) rfl rfl (Nat.le_of_ble_eq_true rfl) (fun h_2 hB_2 hS_2 => ?_)
  dsimp only [List.set, mFs] at hB_2
  refine r_aload_n (pc := 5) dX11_turn_5 rfl (by first | rfl | exact isRefV_rf _) ?_
  refine rm_getf (pc := 6) dX11_turn_6 fX11_11 (by assumption) rfl ?_
  refine rj_bipush (pc := 9) dX11_turn_9 (by decide +kernel) ?_
  refine r_dup2 (pc := 11) dX11_turn_11 rfl rfl ?_
  refine rj_iald (pc := 12) (j := 7) dX11_turn_12 (by first | exact isM.g0 (by assumption) | exact isM.g3 (by assumption) | exact isM.g4 (by assumption) | exact isM.g8 (by assumption) | exact isM.g7 (by assumption) | exact isM.g6 (by assumption) | exact isM.g5 (by assumption) | exact isM.g1 (by assumption) | exact isM.g2 (by assumption)) (by first | assumption | exact b01_r | exact bz_r | omega | (constructor <;> omega) | exact hM _ | exact hPo _ | exact hTa _ | exact hRo _) (by first | assumption | exact b01_r | exact bz_r | omega | (constructor <;> omega) | exact hM _ | exact hPo _ | exact hTa _ | exact hRo _) (by first | assumption | exact b01_r | exact bz_r | omega | (constructor <;> omega) | exact hM _ | exact hPo _ | exact hTa _ | exact hRo _) (by omega) ?_
  refine rj_iconst (pc := 13) dX11_turn_13 ?_
  refine rj_iadd (pc := 14) dX11_turn_14 ?_
  first | refine rm_iast0 (pc := 15) (j := 7) dX11_turn_15 (by assumption) (by first | assumption | exact b01_r | exact bz_r | omega | (constructor <;> omega) | exact hM _ | exact hPo _ | exact hTa _ | exact hRo _) (by first | assumption | exact b01_r | exact bz_r | omega | (constructor <;> omega) | exact hM _ | exact hPo _ | exact hTa _ | exact hRo _) (by first | assumption | exact b01_r | exact bz_r | omega | (constructor <;> omega) | exact hM _ | exact hPo _ | exact hTa _ | exact hRo _) (by omega) (fun h_15 hB_15 hS_15 => ?_)
  refine r_aload_n (pc := 16) dX11_turn_16 rfl (by first | rfl | exact isRefV_rf _) ?_
  refine rm_getf (pc := 17) dX11_turn_17 fX11_11 (by assumption) rfl ?_
  refine r_iload_n (pc := 20) dX11_turn_20 rfl ?_
  refine rj_iconst (pc := 21) dX11_turn_21 ?_
  refine rj_iconst (pc := 22) dX11_turn_22 ?_
  refine r_callS3 (pc := 23) dX11_turn_23 qX11_ofTask kX11_58 sX11_ofTask (Nat.le_of_ble_eq_true rfl) (m_ofTask _) (fun v_23 h_23 q_23 => ?_)
  obtain ⟨rfl, rfl⟩ := q_23
  refine r_dup2 (pc := 26) dX11_turn_26 rfl rfl ?_
  refine rj_iald (pc := 27) (j := 1612 + 72 * t) dX11_turn_27 (by first | exact isM.g0 (by assumption) | exact isM.g3 (by assumption) | exact isM.g4 (by assumption) | exact isM.g8 (by assumption) | exact isM.g7 (by assumption) | exact isM.g6 (by assumption) | exact isM.g5 (by assumption) | exact isM.g1 (by assumption) | exact isM.g2 (by assumption)) (by first | assumption | exact b01_r | exact bz_r | omega | (constructor <;> omega) | exact hM _ | exact hPo _ | exact hTa _ | exact hRo _) (by first | assumption | exact b01_r | exact bz_r | omega | (constructor <;> omega) | exact hM _ | exact hPo _ | exact hTa _ | exact hRo _) (by first | assumption | exact b01_r | exact bz_r | omega | (constructor <;> omega) | exact hM _ | exact hPo _ | exact hTa _ | exact hRo _) (by omega) ?_
  rw [e1]
  refine rj_iconst (pc := 28) dX11_turn_28 ?_
  refine rj_iadd (pc := 29) dX11_turn_29 ?_
  first | refine rm_iast0 (pc := 30) (j := 1612 + 72 * t) dX11_turn_30 (by assumption) (by first | assumption | exact b01_r | exact bz_r | omega | (constructor <;> omega) | exact hM _ | exact hPo _ | exact hTa _ | exact hRo _) (by first | assumption | exact b01_r | exact bz_r | omega | (constructor <;> omega) | exact hM _ | exact hPo _ | exact hTa _ | exact hRo _) (by first | assumption | exact b01_r | exact bz_r | omega | (constructor <;> omega) | exact hM _ | exact hPo _ | exact hTa _ | exact hRo _) (by omega) (fun h_30 hB_30 hS_30 => ?_)
  refine r_aload_n (pc := 31) dX11_turn_31 rfl (by first | rfl | exact isRefV_rf _) ?_
  refine rm_getf (pc := 32) dX11_turn_32 fX11_11 (by assumption) rfl ?_
  refine r_iload_n (pc := 35) dX11_turn_35 rfl ?_
  refine rj_iconst (pc := 36) dX11_turn_36 ?_
  refine rj_iconst (pc := 37) dX11_turn_37 ?_
  refine r_callS3 (pc := 38) dX11_turn_38 qX11_ofTask kX11_58 sX11_ofTask (Nat.le_of_ble_eq_true rfl) (m_ofTask _) (fun v_38 h_38 q_38 => ?_)
  obtain ⟨rfl, rfl⟩ := q_38
  refine r_aload_n (pc := 41) dX11_turn_41 rfl (by first | rfl | exact isRefV_rf _) ?_
  refine rm_getf (pc := 42) dX11_turn_42 fX11_11 (by assumption) rfl ?_
  refine rj_bipush (pc := 45) dX11_turn_45 (by decide +kernel) ?_
  refine rj_iald (pc := 47) (j := 7) dX11_turn_47 (by first | exact isM.g0 (by assumption) | exact isM.g3 (by assumption) | exact isM.g4 (by assumption) | exact isM.g8 (by assumption) | exact isM.g7 (by assumption) | exact isM.g6 (by assumption) | exact isM.g5 (by assumption) | exact isM.g1 (by assumption) | exact isM.g2 (by assumption)) (by first | assumption | exact b01_r | exact bz_r | omega | (constructor <;> omega) | exact hM _ | exact hPo _ | exact hTa _ | exact hRo _) (by first | assumption | exact b01_r | exact bz_r | omega | (constructor <;> omega) | exact hM _ | exact hPo _ | exact hTa _ | exact hRo _) (by first | assumption | exact b01_r | exact bz_r | omega | (constructor <;> omega) | exact hM _ | exact hPo _ | exact hTa _ | exact hRo _) (by omega) ?_
  rw [e2]
  first | refine rm_iast0 (pc := 48) (j := 1613 + 72 * t) dX11_turn_48 (by assumption) (by first | assumption | exact b01_r | exact bz_r | omega | (constructor <;> omega) | exact hM _ | exact hPo _ | exact hTa _ | exact hRo _) (by first | assumption | exact b01_r | exact bz_r | omega | (constructor <;> omega) | exact hM _ | exact hPo _ | exact hTa _ | exact hRo _) (by first | assumption | exact b01_r | exact bz_r | omega | (constructor <;> omega) | exact hM _ | exact hPo _ | exact hTa _ | exact hRo _) (by omega) (fun h_48 hB_48 hS_48 => ?_)
  exact K _ hB_48 (((hS_2.trans hS_15).trans hS_30).trans hS_48)
end mg_71

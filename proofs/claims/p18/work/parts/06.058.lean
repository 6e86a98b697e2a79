section mg_27
set_option maxHeartbeats 4000000 in
set_option maxRecDepth 100000 in
theorem m_moves {G : mG} {l : Launch} (d : Nat) {h : mH} {x s : Nat} {f4 f6 f8 f9 f10 f11 f12 f13 f14 f16 f18 : Int} {m kp was pool tape pln pap rwd rw : Nat → Int}(hB : isM h x (mFs x f4 f6 f8 f9 f10 f11 f12 f13 f14 f16 f18 s) m kp was pool tape pln pap rwd rw) {t : Nat} (ht : t ≤ 89) {b : Int} : RUNM G l (d + 1) mX11_moves [.ref x, .int (J (t : Int)), .int (J b)] h (fun v h' => v = none ∧ isM h' x (mFs x f4 f6 f8 f9 f10 f11 f12 f13 f14 f16 f18 s) (movesM m t b) kp was pool tape pln pap rwd rw ∧ Same (mBlk x) h h') := by
  dsimp only [mFs] at hB
  refine RUNM.of (by decide +kernel) (Nat.le_of_ble_eq_true rfl) ?_
  refine r_aload_n (pc := 0) dX11_moves_0 rfl (by first | rfl | exact isRefV_rf _) ?_
  refine rm_getf (pc := 1) dX11_moves_1 fX11_11 (by assumption) rfl ?_
  refine r_iload_n (pc := 4) dX11_moves_4 rfl ?_
  refine rj_iconst (pc := 5) dX11_moves_5 ?_
  refine rj_iconst (pc := 6) dX11_moves_6 ?_
  refine r_callS3 (pc := 7) dX11_moves_7 qX11_ofThing kX11_54 sX11_ofThing (Nat.le_of_ble_eq_true rfl) (m_ofThing d) (fun v_7 h_7 q_7 => ?_)
  obtain ⟨rfl, rfl⟩ := q_7
  refine r_iload_n (pc := 10) dX11_moves_10 rfl ?_
  first | refine rm_iast0 (pc := 11) (j := 259 + 14 * t) dX11_moves_11 (by assumption) (by first | assumption | exact b01_r | exact bz_r | omega | (constructor <;> omega) | exact hM _ | exact hPo _ | exact hTa _ | exact hRo _) (by first | assumption | exact b01_r | exact bz_r | omega | (constructor <;> omega) | exact hM _ | exact hPo _ | exact hTa _ | exact hRo _) (by first | assumption | exact b01_r | exact bz_r | omega | (constructor <;> omega) | exact hM _ | exact hPo _ | exact hTa _ | exact hRo _) (by omega) (fun h_11 hB_11 hS_11 => ?_)
  refine r_aload_n (pc := 12) dX11_moves_12 rfl (by first | rfl | exact isRefV_rf _) ?_
  refine rm_getf (pc := 13) dX11_moves_13 fX11_11 (by assumption) rfl ?_
  refine r_iload_n (pc := 16) dX11_moves_16 rfl ?_
  refine rj_iconst (pc := 17) dX11_moves_17 ?_
  refine rj_iconst (pc := 18) dX11_moves_18 ?_
  refine r_callS3 (pc := 19) dX11_moves_19 qX11_ofThing kX11_54 sX11_ofThing (Nat.le_of_ble_eq_true rfl) (m_ofThing d) (fun v_19 h_19 q_19 => ?_)
  obtain ⟨rfl, rfl⟩ := q_19
  refine r_aload_n (pc := 22) dX11_moves_22 rfl (by first | rfl | exact isRefV_rf _) ?_
  refine r_callV0 (pc := 23) dX11_moves_23 qX11_stamp kX11_126 vX11_stamp (by exact isM.gx (by assumption)) rfl rfl (Nat.le_of_ble_eq_true rfl) (m_stamp d hB_11) (fun v_23 h_23 q_23 => ?_)
  obtain ⟨rfl, hB_23, hS_23⟩ := q_23
  rw [updI_n (by omega)] at hB_23 ⊢
  first | refine rm_iast0 (pc := 26) (j := 260 + 14 * t) dX11_moves_26 (by assumption) (by first | assumption | exact b01_r | exact bz_r | omega | (constructor <;> omega) | exact hM _ | exact hPo _ | exact hTa _ | exact hRo _) (by first | assumption | exact b01_r | exact bz_r | omega | (constructor <;> omega) | exact hM _ | exact hPo _ | exact hTa _ | exact hRo _) (by first | assumption | exact b01_r | exact bz_r | omega | (constructor <;> omega) | exact hM _ | exact hPo _ | exact hTa _ | exact hRo _) (by omega) (fun h_26 hB_26 hS_26 => ?_)
  refine r_return (pc := 27) dX11_moves_27 rfl ?_
  exact ⟨rfl, hB_26, (hS_11.trans hS_23).trans hS_26⟩
end mg_27

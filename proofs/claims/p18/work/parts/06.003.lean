section mg_21
set_option maxHeartbeats 4000000 in
set_option maxRecDepth 100000 in
theorem m_isScope {G : mG} {l : Launch} (d : Nat) {h : mH} {x s : Nat} {f4 f6 f8 f9 f10 f11 f12 f13 f14 f16 f18 : Int} {m kp was pool tape pln pap rwd rw : Nat → Int}(hB : isM h x (mFs x f4 f6 f8 f9 f10 f11 f12 f13 f14 f16 f18 s) m kp was pool tape pln pap rwd rw) {a : Int} (ha : InR a) (hM : InR (m 0 - 1)) : RUNM G l (d + 1) mX11_isScope [.ref x, .int (J a)] h (fun v h' => v = some (.int (J (b01 (0 ≤ a ∧ a ≤ m 0 - 1)))) ∧ h' = h) := by
  dsimp only [mFs] at hB
  refine RUNM.of (by decide +kernel) (Nat.le_of_ble_eq_true rfl) ?_
  refine r_iload_n (pc := 0) dX11_isScope_0 rfl ?_
  refine rj_iconst (pc := 1) dX11_isScope_1 ?_
  refine r_aload_n (pc := 2) dX11_isScope_2 rfl (by first | rfl | exact isRefV_rf _) ?_
  refine rm_getf (pc := 3) dX11_isScope_3 fX11_11 (by assumption) rfl ?_
  refine rj_iconst (pc := 6) dX11_isScope_6 ?_
  refine rj_iald (pc := 7) (j := 0) dX11_isScope_7 (by first | exact isM.g0 (by assumption) | exact isM.g3 (by assumption) | exact isM.g4 (by assumption) | exact isM.g8 (by assumption) | exact isM.g7 (by assumption) | exact isM.g6 (by assumption) | exact isM.g5 (by assumption) | exact isM.g1 (by assumption) | exact isM.g2 (by assumption)) (by first | assumption | exact b01_r | exact bz_r | omega | (constructor <;> omega) | exact hM _ | exact hPo _ | exact hTa _ | exact hRo _) (by first | assumption | exact b01_r | exact bz_r | omega | (constructor <;> omega) | exact hM _ | exact hPo _ | exact hTa _ | exact hRo _) (by first | assumption | exact b01_r | exact bz_r | omega | (constructor <;> omega) | exact hM _ | exact hPo _ | exact hTa _ | exact hRo _) rfl ?_
  refine rj_iconst (pc := 8) dX11_isScope_8 ?_
  refine rj_isub (pc := 9) dX11_isScope_9 ?_
  refine r_callS3 (pc := 10) dX11_isScope_10 qX11_isIn kX11_46 sX11_isIn (Nat.le_of_ble_eq_true rfl) (m_isIn d ha (by decide) hM) (fun v_10 h_10 q_10 => ?_)
  obtain ⟨rfl, rfl⟩ := q_10
  refine r_ireturn (pc := 13) .boolean dX11_isScope_13 rfl (by first | exact nar_J0 | exact nar_J1 | exact nar_b01 | exact nar_bz) ?_
  first
  | exact ⟨rfl, rfl⟩
  | exact ⟨vf (by omega), rfl⟩
  | exact ⟨vt (by omega), rfl⟩
end mg_21

section mg_34
set_option maxHeartbeats 4000000 in
set_option maxRecDepth 100000 in
theorem m_above {G : mG} {l : Launch} (d : Nat) {h : mH} {x s : Nat} {f4 f6 f8 f9 f10 f11 f12 f13 f14 f16 f18 : Int} {m kp was pool tape pln pap rwd rw : Nat → Int}(hB : isM h x (mFs x f4 f6 f8 f9 f10 f11 f12 f13 f14 f16 f18 s) m kp was pool tape pln pap rwd rw) {C : Nat} (hC2 : C ≤ 60) (hP : parOk m C) {a : Int} (h0 : 0 ≤ a) (ha2 : a < C) : RUNM G l (d + 1) mX11_above [.ref x, .int (J a)] h (fun v h' => v = some (.int (J (upN m C (m (19 + 4 * a).toNat)))) ∧ h' = h) := by
  have hB0 := hB
  dsimp only [mFs] at hB
  refine RUNM.of (by decide +kernel) (Nat.le_of_ble_eq_true rfl) ?_
  obtain ⟨p1, p2⟩ := hP a h0 ha2
  refine rj_iconst (pc := 0) dX11_above_0 ?_
  refine r_istore_n (pc := 1) dX11_above_1 (Nat.le_of_ble_eq_true rfl) ?_
  dsimp only [lsSt, List.set, mLs, mEnt]
  refine r_aload_n (pc := 2) dX11_above_2 rfl (by first | rfl | exact isRefV_rf _) ?_
  refine rm_getf (pc := 3) dX11_above_3 fX11_11 (by assumption) rfl ?_
  refine r_iload_n (pc := 6) dX11_above_6 rfl ?_
  refine rj_iconst (pc := 7) dX11_above_7 ?_
  refine r_callS2 (pc := 8) dX11_above_8 qX11_ofScope kX11_42 sX11_ofScope (Nat.le_of_ble_eq_true rfl) (m_ofScope d) (fun v_8 h_8 q_8 => ?_)
  obtain ⟨rfl, rfl⟩ := q_8
  refine rj_iald (pc := 11) (j := (19 + 4 * a).toNat) dX11_above_11 (by first | exact isM.g0 (by assumption) | exact isM.g3 (by assumption) | exact isM.g4 (by assumption) | exact isM.g8 (by assumption) | exact isM.g7 (by assumption) | exact isM.g6 (by assumption) | exact isM.g5 (by assumption) | exact isM.g1 (by assumption) | exact isM.g2 (by assumption)) (by first | assumption | exact b01_r | exact bz_r | omega | (constructor <;> omega) | exact hM _ | exact hPo _ | exact hTa _ | exact hRo _) (by first | assumption | exact b01_r | exact bz_r | omega | (constructor <;> omega) | exact hM _ | exact hPo _ | exact hTa _ | exact hRo _) (by first | assumption | exact b01_r | exact bz_r | omega | (constructor <;> omega) | exact hM _ | exact hPo _ | exact hTa _ | exact hRo _) (by omega) ?_
  refine r_istore_n (pc := 12) dX11_above_12 (Nat.le_of_ble_eq_true rfl) ?_
  dsimp only [lsSt, List.set, mLs, mEnt]
  have z := L_above (G := G) (l := l) d (a := a) hB0 hC2 hP C (m (19 + 4 * a).toNat) 0 (by omega) p1 (by omega)
  rw [Int.zero_add] at z
  exact z
end mg_34

section mg_73
set_option maxHeartbeats 4000000 in
set_option maxRecDepth 100000 in
theorem m_find {G : mG} {l : Launch} (d : Nat) {h : mH} {x s : Nat} {f4 f6 f8 f9 f10 f11 f12 f13 f14 f16 f18 : Int} {m kp was pool tape pln pap rwd rw : Nat → Int}(hB : isM h x (mFs x f4 f6 f8 f9 f10 f11 f12 f13 f14 f16 f18 s) m kp was pool tape pln pap rwd rw) (hok : mOk m) (h6 : 0 ≤ f6 ∧ f6 ≤ 120) (hTa : ∀ q, InR (tape q)) : RUNM G l (d + 4) mX11_find [.ref x] h (fun v h' => v = some (.int (J (hbL m tape 0 f6.toNat (m 1).toNat 0))) ∧ isM h' x (mFs x f4 0 f8 f9 f10 f11 f12 f13 f14 f16 f18 s) m kp was pool tape pln pap rwd rw ∧ Same (mBlk x) h h') := by
  obtain ⟨hM, k0, k1, k2, k3, k4, k5, k7⟩ := id hok
  have hB0 := hB
  dsimp only [mFs] at hB
  refine RUNM.of (by decide +kernel) (Nat.le_of_ble_eq_true rfl) ?_
  refine r_aload_n (pc := 0) dX11_find_0 rfl (by first | rfl | exact isRefV_rf _) ?_
  refine rm_getf (pc := 1) dX11_find_1 fX11_61 (by assumption) rfl ?_
  refine r_istore_n (pc := 4) dX11_find_4 (Nat.le_of_ble_eq_true rfl) ?_
  dsimp only [lsSt, List.set, mLs, mEnt]
  refine r_aload_n (pc := 5) dX11_find_5 rfl (by first | rfl | exact isRefV_rf _) ?_
  refine rj_iconst (pc := 6) dX11_find_6 ?_
  refine rm_putf (pc := 7) dX11_find_7 fX11_61 (by assumption) rfl rfl (Nat.le_of_ble_eq_true rfl) (fun h_7 hB_7 hS_7 => ?_)
  dsimp only [List.set, mFs] at hB_7
  refine r_aload_n (pc := 10) dX11_find_10 rfl (by first | rfl | exact isRefV_rf _) ?_
  refine r_aload_n (pc := 11) dX11_find_11 rfl (by first | rfl | exact isRefV_rf _) ?_
  refine rm_getf (pc := 12) dX11_find_12 fX11_24 (by assumption) rfl ?_
  refine rj_iconst (pc := 15) dX11_find_15 ?_
  refine r_iload_n (pc := 16) dX11_find_16 rfl ?_
  refine r_callV3 (pc := 17) dX11_find_17 qX11_heldBy kX11_163 vX11_heldBy (by exact isM.gx (by assumption)) rfl rfl (Nat.le_of_ble_eq_true rfl) (by have y := m_heldBy (G := G) (l := l) d (show isM h_7 x (mFs x f4 0 f8 f9 f10 f11 f12 f13 f14 f16 f18 s) m kp was pool tape pln pap rwd rw from hB_7) hM (rs := 4) (rc := tape) (fr := 0) (to := f6.toNat) (Or.inl ⟨rfl, rfl, by omega⟩) (by omega) hTa (N := (m 1).toNat) (by omega) (by omega) (fun t ht => k7 t (by omega)); rw [show ((f6.toNat : Nat) : Int) = f6 by omega] at y; exact y) (fun v_17 h_17 q_17 => ?_)
  obtain ⟨rfl, rfl⟩ := q_17
  refine r_ireturn (pc := 20) .int dX11_find_20 rfl (by first | rfl | assumption) ?_
  exact ⟨rfl, hB_7, hS_7⟩
end mg_73

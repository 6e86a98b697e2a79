section mg_73
set_option maxHeartbeats 4000000 in
set_option maxRecDepth 100000 in
theorem m_from {G : mG} {l : Launch} (d : Nat) {h : mH} {x s : Nat} {f4 f6 f8 f9 f10 f11 f12 f13 f14 f16 f18 : Int} {m kp was pool tape pln pap rwd rw : Nat → Int}(hB : isM h x (mFs x f4 f6 f8 f9 f10 f11 f12 f13 f14 f16 f18 s) m kp was pool tape pln pap rwd rw) (hok : mOk m) {N : Nat} (hN : m 1 = (N : Int)) (hnm : ∀ t : Nat, t < N → (0 ≤ m (261 + 14 * t) ∧ m (261 + 14 * t) ≤ 7) ∧ ∀ k : Nat, k < 7 → -200 ≤ m (265 + 14 * t + k) ∧ m (265 + 14 * t + k) ≤ 200) (h6 : 0 ≤ f6 ∧ f6 ≤ 120) (hta : ∀ k : Nat, (k : Int) < f6 → -200 ≤ tape k ∧ tape k ≤ 200) : RUNM G l (d + 3) mX11_from [.ref x] h (fun v h' => v = some (.int (J (frL m tape f6 N 0 (-5)))) ∧ isM h' x (mFs x f4 0 f8 f9 f10 f11 f12 f13 f14 f16 f18 s) m kp was pool tape pln pap rwd rw ∧ Same (mBlk x) h h') := by
  have hB0 := hB
  dsimp only [mFs] at hB
  refine RUNM.of (by decide +kernel) (Nat.le_of_ble_eq_true rfl) ?_
  refine r_aload_n (pc := 0) dX11_from_0 rfl (by first | rfl | exact isRefV_rf _) ?_
  refine rm_getf (pc := 1) dX11_from_1 fX11_61 (by assumption) rfl ?_
  refine r_istore_n (pc := 4) dX11_from_4 (Nat.le_of_ble_eq_true rfl) ?_
  dsimp only [lsSt, List.set, mLs, mEnt]
  refine r_aload_n (pc := 5) dX11_from_5 rfl (by first | rfl | exact isRefV_rf _) ?_
  refine rj_iconst (pc := 6) dX11_from_6 ?_
  refine rm_putf (pc := 7) dX11_from_7 fX11_61 (by assumption) rfl rfl (Nat.le_of_ble_eq_true rfl) (fun h_7 hB_7 hS_7 => ?_)
  dsimp only [List.set, mFs] at hB_7
  refine rj_bipush (pc := 10) dX11_from_10 (by decide +kernel) ?_
  refine r_istore_n (pc := 12) dX11_from_12 (Nat.le_of_ble_eq_true rfl) ?_
  dsimp only [lsSt, List.set, mLs, mEnt]
  refine rj_iconst (pc := 13) dX11_from_13 ?_
  refine r_istore_n (pc := 14) dX11_from_14 (Nat.le_of_ble_eq_true rfl) ?_
  dsimp only [lsSt, List.set, mLs, mEnt]
  exact (L_from d (show isM h_7 x (mFs x f4 0 f8 f9 f10 f11 f12 f13 f14 f16 f18 s) m kp was pool tape pln pap rwd rw from hB_7) hok hN hnm h6 hta N 0 (-5) (by omega) (by omega) (by omega)).mono (fun v h' q => ⟨q.1, q.2 ▸ hB_7, q.2 ▸ hS_7⟩)
end mg_73

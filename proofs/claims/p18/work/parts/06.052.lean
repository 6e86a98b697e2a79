section mg_27
set_option maxHeartbeats 4000000 in
set_option maxRecDepth 100000 in
theorem m_begins {G : mG} {l : Launch} (d : Nat) {h : mH} {x s : Nat} {f4 f6 f8 f9 f10 f11 f12 f13 f14 f16 f18 : Int} {m kp was pool tape pln pap rwd rw : Nat → Int}(hB : isM h x (mFs x f4 f6 f8 f9 f10 f11 f12 f13 f14 f16 f18 s) m kp was pool tape pln pap rwd rw) {s2 : Nat} {a b : Int} : RUNM G l (d) mX11_begins [.ref x, .ref (mAd x s2), .int (J a), .int (J b)] h (fun v h' => v = none ∧ isM h' x (mFs x f4 f6 a b (-1) f11 f12 0 f14 f16 f18 s2) m kp was pool tape pln pap rwd rw ∧ Same (mBlk x) h h') := by
  dsimp only [mFs] at hB
  refine RUNM.of (by decide +kernel) (Nat.le_of_ble_eq_true rfl) ?_
  refine r_aload_n (pc := 0) dX11_begins_0 rfl (by first | rfl | exact isRefV_rf _) ?_
  refine r_aload_n (pc := 1) dX11_begins_1 rfl (by first | rfl | exact isRefV_rf _) ?_
  refine rm_putf (pc := 2) dX11_begins_2 fX11_27 (by assumption) rfl rfl (Nat.le_of_ble_eq_true rfl) (fun h_2 hB_2 hS_2 => ?_)
  dsimp only [List.set, mFs] at hB_2
  refine r_aload_n (pc := 5) dX11_begins_5 rfl (by first | rfl | exact isRefV_rf _) ?_
  refine r_iload_n (pc := 6) dX11_begins_6 rfl ?_
  refine rm_putf (pc := 7) dX11_begins_7 fX11_65 (by assumption) rfl rfl (Nat.le_of_ble_eq_true rfl) (fun h_7 hB_7 hS_7 => ?_)
  dsimp only [List.set, mFs] at hB_7
  refine r_aload_n (pc := 10) dX11_begins_10 rfl (by first | rfl | exact isRefV_rf _) ?_
  refine r_iload_n (pc := 11) dX11_begins_11 rfl ?_
  refine rm_putf (pc := 12) dX11_begins_12 fX11_68 (by assumption) rfl rfl (Nat.le_of_ble_eq_true rfl) (fun h_12 hB_12 hS_12 => ?_)
  dsimp only [List.set, mFs] at hB_12
  refine r_aload_n (pc := 15) dX11_begins_15 rfl (by first | rfl | exact isRefV_rf _) ?_
  refine rj_iconst (pc := 16) dX11_begins_16 ?_
  refine rm_putf (pc := 17) dX11_begins_17 fX11_71 (by assumption) rfl rfl (Nat.le_of_ble_eq_true rfl) (fun h_17 hB_17 hS_17 => ?_)
  dsimp only [List.set, mFs] at hB_17
  refine r_aload_n (pc := 20) dX11_begins_20 rfl (by first | rfl | exact isRefV_rf _) ?_
  refine rj_iconst (pc := 21) dX11_begins_21 ?_
  refine rm_putf (pc := 22) dX11_begins_22 fX11_99 (by assumption) rfl rfl (Nat.le_of_ble_eq_true rfl) (fun h_22 hB_22 hS_22 => ?_)
  dsimp only [List.set, mFs] at hB_22
  refine r_return (pc := 25) dX11_begins_25 rfl ?_
  exact ⟨rfl, hB_22, (((hS_2.trans hS_7).trans hS_12).trans hS_17).trans hS_22⟩
end mg_27

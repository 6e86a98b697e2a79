set_option maxHeartbeats 4000000 in
set_option maxRecDepth 100000 in
theorem m_spells {G : mG} {l : Launch} (d : Nat) {x s : Nat} {f4 f6 f8 f9 f10 f11 f12 f13 f14 f16 f18 : Int} {m kp was pool tape pln pap rwd rw : Nat → Int} {h : mH} (hB : isM h x (mFs x f4 f6 f8 f9 f10 f11 f12 f13 f14 f16 f18 s) m kp was pool tape pln pap rwd rw) (hPo : ∀ q, InR (pool q)) {fr to : Nat} (hto : to ≤ 12300) (hft : fr ≤ to) (h120 : to - fr ≤ 120) (hmin : minOk pool fr to) : RUNM G l (d + 2) mX11_spells [.ref x, .int (J (fr : Int)), .int (J (to : Int))] h (fun v h' => v = none ∧ isM h' x (mFs x f4 f6 f8 f9 f10 f11 f12 f13 f14 f16 ((spS pool to (to - fr) fr false pap 0).2 : Int) s) m kp was pool tape pln (spS pool to (to - fr) fr false pap 0).1 rwd rw ∧ Same (mBlk x) h h') := by
  have hB0 := hB
  dsimp only [mFs] at hB
  refine RUNM.of (by decide +kernel) (Nat.le_of_ble_eq_true rfl) ?_
  refine r_aload_n (pc := 0) dX11_spells_0 rfl (by first | rfl | exact isRefV_rf _) ?_
  refine rj_iconst (pc := 1) dX11_spells_1 ?_
  refine rm_putf (pc := 2) dX11_spells_2 fX11_298 (by assumption) rfl rfl (Nat.le_of_ble_eq_true rfl) (fun h_2 hB_2 hS_2 => ?_)
  dsimp only [List.set, mFs] at hB_2
  refine rj_iconst (pc := 5) dX11_spells_5 ?_
  refine r_istore_n (pc := 6) dX11_spells_6 (Nat.le_of_ble_eq_true rfl) ?_
  dsimp only [lsSt, List.set, mLs, mEnt]
  refine r_iload_n (pc := 7) dX11_spells_7 rfl ?_
  refine r_istore (pc := 8) dX11_spells_8 (Nat.le_of_ble_eq_true rfl) ?_
  dsimp only [lsSt, List.set, mLs, mEnt]
  exact (L_spells (G := G) (l := l) d hPo hto hmin (to - fr) fr false pap 0 _ none none none (by omega) (by omega) (by omega) (show isM h_2 x (mFs x f4 f6 f8 f9 f10 f11 f12 f13 f14 f16 ((0 : Nat) : Int) s) m kp was pool tape pln pap rwd rw from hB_2)).mono (fun v h' q => ⟨q.1, q.2.1, hS_2.trans q.2.2⟩)

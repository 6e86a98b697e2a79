section mg_70
set_option maxHeartbeats 4000000 in
set_option maxRecDepth 100000 in
theorem m_isOver {G : mG} {l : Launch} {D : Nat} (hD : 280 ≤ D) {x s : Nat} {f4 f6 f8 f9 f10 f11 f12 f13 f14 f16 f18 : Int} {kp was pool tape pln pap rwd rw : Nat → Int} {sh : (Nat → Int) → Int → (Nat → Int) → Prop} (hsh : ∀ (m1 m2 : Nat → Int) (e : Int) (h : mH), isM h x (mFs x f4 f6 f8 f9 f10 f11 f12 f13 f14 f16 f18 s) m1 kp was pool tape pln pap rwd rw → sh m1 e m2 → RUNM G l D mX11_shuts [.ref x, .int (J e)] h (fun v h' => v = none ∧ isM h' x (mFs x f4 f6 f8 f9 f10 f11 f12 f13 f14 f16 f18 s) m2 kp was pool tape pln pap rwd rw ∧ Same (mBlk x) h h')) {m m' : Nat → Int} {t : Nat} {st : Int} {h : mH} (hB : isM h x (mFs x f4 f6 f8 f9 f10 f11 f12 f13 f14 f16 f18 s) m kp was pool tape pln pap rwd rw) (hR : isOverR sh t st m m') : RUNM G l (D + 1) mX11_isOver [.ref x, .int (J (t : Int)), .int (J st)] h (fun v h' => v = none ∧ isM h' x (mFs x f4 f6 f8 f9 f10 f11 f12 f13 f14 f16 f18 s) m' kp was pool tape pln pap rwd rw ∧ Same (mBlk x) h h') := by
  obtain ⟨ht, n, hn, hc, hR⟩ := hR
  have hB0 := hB
  have e1 : updI m (1610 + 72 * t) st (1619 + 72 * t) = n := (updI_n (by omega)).trans hc
  dsimp only [mFs] at hB
  refine RUNM.of (by decide +kernel) (Nat.le_of_ble_eq_true rfl) ?_
  refine r_aload_n (pc := 0) dX11_isOver_0 rfl (by first | rfl | exact isRefV_rf _) ?_
  refine rm_getf (pc := 1) dX11_isOver_1 fX11_11 (by assumption) rfl ?_
  refine r_iload_n (pc := 4) dX11_isOver_4 rfl ?_
  refine rj_iconst (pc := 5) dX11_isOver_5 ?_
  refine rj_iconst (pc := 6) dX11_isOver_6 ?_
  refine r_callS3 (pc := 7) dX11_isOver_7 qX11_ofTask kX11_58 sX11_ofTask (Nat.le_of_ble_eq_true rfl) (m_ofTask _) (fun v_7 h_7 q_7 => ?_)
  obtain ⟨rfl, rfl⟩ := q_7
  refine r_iload_n (pc := 10) dX11_isOver_10 rfl ?_
  first | refine rm_iast0 (pc := 11) (j := 1610 + 72 * t) dX11_isOver_11 (by assumption) (by first | assumption | exact b01_r | exact bz_r | omega | (constructor <;> omega) | exact hM _ | exact hPo _ | exact hTa _ | exact hRo _) (by first | assumption | exact b01_r | exact bz_r | omega | (constructor <;> omega) | exact hM _ | exact hPo _ | exact hTa _ | exact hRo _) (by first | assumption | exact b01_r | exact bz_r | omega | (constructor <;> omega) | exact hM _ | exact hPo _ | exact hTa _ | exact hRo _) (by omega) (fun h_11 hB_11 hS_11 => ?_)
  refine r_aload_n (pc := 12) dX11_isOver_12 rfl (by first | rfl | exact isRefV_rf _) ?_
  refine rm_getf (pc := 13) dX11_isOver_13 fX11_11 (by assumption) rfl ?_
  refine r_iload_n (pc := 16) dX11_isOver_16 rfl ?_
  refine rj_bipush (pc := 17) dX11_isOver_17 (by decide +kernel) ?_
  refine rj_iconst (pc := 19) dX11_isOver_19 ?_
  refine r_callS3 (pc := 20) dX11_isOver_20 qX11_ofTask kX11_58 sX11_ofTask (Nat.le_of_ble_eq_true rfl) (m_ofTask _) (fun v_20 h_20 q_20 => ?_)
  obtain ⟨rfl, rfl⟩ := q_20
  refine rj_iald (pc := 23) (j := 1619 + 72 * t) dX11_isOver_23 (by first | exact isM.g0 (by assumption) | exact isM.g3 (by assumption) | exact isM.g4 (by assumption) | exact isM.g8 (by assumption) | exact isM.g7 (by assumption) | exact isM.g6 (by assumption) | exact isM.g5 (by assumption) | exact isM.g1 (by assumption) | exact isM.g2 (by assumption)) (by first | assumption | exact b01_r | exact bz_r | omega | (constructor <;> omega) | exact hM _ | exact hPo _ | exact hTa _ | exact hRo _) (by first | assumption | exact b01_r | exact bz_r | omega | (constructor <;> omega) | exact hM _ | exact hPo _ | exact hTa _ | exact hRo _) (by first | assumption | exact b01_r | exact bz_r | omega | (constructor <;> omega) | exact hM _ | exact hPo _ | exact hTa _ | exact hRo _) (by omega) ?_
  rw [e1]
  refine rj_iconst (pc := 24) dX11_isOver_24 ?_
  refine rj_isub (pc := 25) dX11_isOver_25 ?_
  refine r_istore_n (pc := 26) dX11_isOver_26 (Nat.le_of_ble_eq_true rfl) ?_
  dsimp only [lsSt, List.set, mLs, mEnt]
  exact (L_isOver hD hsh ht n _ _ hn hB_11 hR).mono (fun v h' q => ⟨q.1, q.2.1, hS_11.trans q.2.2⟩)
end mg_70

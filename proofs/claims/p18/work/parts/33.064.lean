section mg_43
set_option maxHeartbeats 4000000 in
set_option maxRecDepth 100000 in
theorem m_isFine {G : mG} {l : Launch} (d : Nat) {h : mH} {x s : Nat} {f4 f6 f8 f9 f10 f11 f12 f13 f14 f16 f18 : Int} {m kp was pool tape pln pap rwd rw : Nat → Int}(hB : isM h x (mFs x f4 f6 f8 f9 f10 f11 f12 f13 f14 f16 f18 s) m kp was pool tape pln pap rwd rw) (hM : ∀ q, InR (m q)) (h0 : 0 ≤ m 0 ∧ m 0 ≤ 60) {t : Int} (h1 : 0 ≤ t) (h2 : t ≤ 9) (hd : 0 ≤ m (1619 + 72 * t).toNat ∧ m (1619 + 72 * t).toNat ≤ 60) : RUNM G l (d + 3) mX11_isFine [.ref x, .int (J t)] h (fun v h' => v = some (.int (J (bz (fineV m t)))) ∧ h' = h) := by
  have hB0 := hB
  dsimp only [mFs] at hB
  refine RUNM.of (by decide +kernel) (Nat.le_of_ble_eq_true rfl) ?_
  refine r_aload_n (pc := 0) dX11_isFine_0 rfl (by first | rfl | exact isRefV_rf _) ?_
  refine rm_getf (pc := 1) dX11_isFine_1 fX11_11 (by assumption) rfl ?_
  refine r_iload_n (pc := 4) dX11_isFine_4 rfl ?_
  refine rj_bipush (pc := 5) dX11_isFine_5 (by decide +kernel) ?_
  refine rj_iconst (pc := 7) dX11_isFine_7 ?_
  refine r_callS3 (pc := 8) dX11_isFine_8 qX11_ofTask kX11_58 sX11_ofTask (Nat.le_of_ble_eq_true rfl) (m_ofTask (d + 2)) (fun v_8 h_8 q_8 => ?_)
  obtain ⟨rfl, rfl⟩ := q_8
  refine rj_iald (pc := 11) (j := (1614 + 72 * t).toNat) dX11_isFine_11 (by first | exact isM.g0 (by assumption) | exact isM.g3 (by assumption) | exact isM.g4 (by assumption) | exact isM.g8 (by assumption) | exact isM.g7 (by assumption) | exact isM.g6 (by assumption) | exact isM.g5 (by assumption) | exact isM.g1 (by assumption) | exact isM.g2 (by assumption)) (by first | assumption | exact b01_r | exact bz_r | omega | (constructor <;> omega) | exact hM _ | exact hPo _ | exact hTa _ | exact hRo _) (by first | assumption | exact b01_r | exact bz_r | omega | (constructor <;> omega) | exact hM _ | exact hPo _ | exact hTa _ | exact hRo _) (by first | assumption | exact b01_r | exact bz_r | omega | (constructor <;> omega) | exact hM _ | exact hPo _ | exact hTa _ | exact hRo _) (by omega) ?_
  refine rj_if_ne (pc := 12) (tgt := 19) dX11_isFine_12 (by decide) (by first | assumption | exact b01_r | exact bz_r | omega | (constructor <;> omega) | exact hM _ | exact hPo _ | exact hTa _ | exact hRo _) (fun c_12 => ?_) (fun c_12 => ?_)
  · try simp only [b01_0, bz_0, Classical.not_not] at c_12
    refine rj_iconst (pc := 19) dX11_isFine_19 ?_
    refine r_istore_n (pc := 20) dX11_isFine_20 (Nat.le_of_ble_eq_true rfl) ?_
    dsimp only [lsSt, List.set, mLs, mEnt]
    refine rj_iconst (pc := 21) dX11_isFine_21 ?_
    refine r_istore_n (pc := 22) dX11_isFine_22 (Nat.le_of_ble_eq_true rfl) ?_
    dsimp only [lsSt, List.set, mLs, mEnt]
    have z := L_isFine (G := G) (l := l) d hB0 hM h0 h1 h2 hd (m (1619 + 72 * t).toNat).toNat 0 false (by omega)
    rw [show fineV m t = fineL m t (m (1619 + 72 * t).toNat).toNat 0 false by unfold fineV; rw [decide_eq_false c_12]]
    rw [show bz false = 0 from rfl] at z
    exact z
  · try simp only [b01_0, bz_0, Classical.not_not] at c_12
    refine rj_iconst (pc := 15) dX11_isFine_15 ?_
    refine r_goto (pc := 16) (tgt := 20) dX11_isFine_16 (by decide) ?_
    refine r_istore_n (pc := 20) dX11_isFine_20 (Nat.le_of_ble_eq_true rfl) ?_
    dsimp only [lsSt, List.set, mLs, mEnt]
    refine rj_iconst (pc := 21) dX11_isFine_21 ?_
    refine r_istore_n (pc := 22) dX11_isFine_22 (Nat.le_of_ble_eq_true rfl) ?_
    dsimp only [lsSt, List.set, mLs, mEnt]
    have z := L_isFine (G := G) (l := l) d hB0 hM h0 h1 h2 hd (m (1619 + 72 * t).toNat).toNat 0 true (by omega)
    rw [show fineV m t = fineL m t (m (1619 + 72 * t).toNat).toNat 0 true by unfold fineV; rw [decide_eq_true c_12]]
    rw [show bz true = 1 from rfl] at z
    exact z
end mg_43

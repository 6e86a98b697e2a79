section mg_28
set_option maxHeartbeats 4000000 in
set_option maxRecDepth 100000 in
theorem m_numberAt {G : mG} {l : Launch} (d : Nat) {h : mH} {x s : Nat} {f4 f6 f8 f9 f10 f11 f12 f13 f14 f16 f18 : Int} {m kp was pool tape pln pap rwd rw : Nat → Int}(hB : isM h x (mFs x f4 f6 f8 f9 f10 f11 f12 f13 f14 f16 f18 s) m kp was pool tape pln pap rwd rw) (hPo : ∀ q, InR (pool q)) {p n : Nat} (hp : p + 1 + n < 12342) (hs : stopsBy pool n (if pool p = 45 then p + 1 else p)) : RUNM G l (d + 1) mX11_numberAt [.ref x, .int (J (p : Int))] h (fun v h' => v = some (.int (J (numAt pool n p))) ∧ h' = h) := by
  dsimp only [mFs] at hB
  refine RUNM.of (by decide +kernel) (Nat.le_of_ble_eq_true rfl) ?_
  refine r_aload_n (pc := 0) dX11_numberAt_0 rfl (by first | rfl | exact isRefV_rf _) ?_
  refine rm_getf (pc := 1) dX11_numberAt_1 fX11_21 (by assumption) rfl ?_
  refine r_iload_n (pc := 4) dX11_numberAt_4 rfl ?_
  refine rj_iald (pc := 5) (j := p) dX11_numberAt_5 (by first | exact isM.g0 (by assumption) | exact isM.g3 (by assumption) | exact isM.g4 (by assumption) | exact isM.g8 (by assumption) | exact isM.g7 (by assumption) | exact isM.g6 (by assumption) | exact isM.g5 (by assumption) | exact isM.g1 (by assumption) | exact isM.g2 (by assumption)) (by first | assumption | exact b01_r | exact bz_r | omega | (constructor <;> omega) | exact hM _ | exact hPo _ | exact hTa _ | exact hRo _) (by first | assumption | exact b01_r | exact bz_r | omega | (constructor <;> omega) | exact hM _ | exact hPo _ | exact hTa _ | exact hRo _) (by first | assumption | exact b01_r | exact bz_r | omega | (constructor <;> omega) | exact hM _ | exact hPo _ | exact hTa _ | exact hRo _) (by omega) ?_
  refine rj_bipush (pc := 6) dX11_numberAt_6 (by decide +kernel) ?_
  refine rj_icmp_ne (pc := 8) (tgt := 17) dX11_numberAt_8 (by decide) (by first | assumption | exact b01_r | exact bz_r | omega | (constructor <;> omega) | exact hM _ | exact hPo _ | exact hTa _ | exact hRo _) (by first | assumption | exact b01_r | exact bz_r | omega | (constructor <;> omega) | exact hM _ | exact hPo _ | exact hTa _ | exact hRo _) (fun c_8 => ?_) (fun c_8 => ?_)
  · refine r_iload_n (pc := 17) dX11_numberAt_17 rfl ?_
    refine r_istore_n (pc := 18) dX11_numberAt_18 (Nat.le_of_ble_eq_true rfl) ?_
    dsimp only [lsSt, List.set, mLs, mEnt]
    refine rj_iconst (pc := 19) dX11_numberAt_19 ?_
    refine r_istore_n (pc := 20) dX11_numberAt_20 (Nat.le_of_ble_eq_true rfl) ?_
    dsimp only [lsSt, List.set, mLs, mEnt]
    rw [if_neg c_8] at hs
    have z := L_numberAt (G := G) (l := l) d hB hPo (p := p) (by omega) n p 0 hs (by omega)
    rw [if_neg c_8] at z
    unfold numAt
    rw [if_neg c_8]
    exact z
  · refine r_iload_n (pc := 11) dX11_numberAt_11 rfl ?_
    refine rj_iconst (pc := 12) dX11_numberAt_12 ?_
    refine rj_iadd (pc := 13) dX11_numberAt_13 ?_
    refine r_goto (pc := 14) (tgt := 18) dX11_numberAt_14 (by decide) ?_
    refine r_istore_n (pc := 18) dX11_numberAt_18 (Nat.le_of_ble_eq_true rfl) ?_
    dsimp only [lsSt, List.set, mLs, mEnt]
    refine rj_iconst (pc := 19) dX11_numberAt_19 ?_
    refine r_istore_n (pc := 20) dX11_numberAt_20 (Nat.le_of_ble_eq_true rfl) ?_
    dsimp only [lsSt, List.set, mLs, mEnt]
    rw [if_pos c_8] at hs
    have z := L_numberAt (G := G) (l := l) d hB hPo (p := p) (by omega) n (p + 1) 0 hs (by omega)
    rw [if_pos c_8] at z
    unfold numAt
    rw [if_pos c_8]
    exact z
end mg_28

section mg_40
set_option maxHeartbeats 4000000 in
set_option maxRecDepth 100000 in
theorem m_youngest {G : mG} {l : Launch} (d : Nat) {h : mH} {x s : Nat} {f4 f6 f8 f9 f10 f11 f12 f13 f14 f16 f18 : Int} {m kp was pool tape pln pap rwd rw : Nat → Int}(hB : isM h x (mFs x f4 f6 f8 f9 f10 f11 f12 f13 f14 f16 f18 s) m kp was pool tape pln pap rwd rw) (hM : ∀ q, InR (m q)) {N C : Nat} (hN : m 1 = (N : Int)) (hcap : N ≤ 90) (hC : m 0 = (C : Int)) (hC2 : C ≤ 60) (hP : parOk m C) (hO : ownOk m N C) {a : Int} (ha : InR a) : RUNM G l (d + 3) mX11_youngest [.ref x, .int (J a)] h (fun v h' => v = some (.int (J (youngV m N C a))) ∧ h' = h) := by
  have hB0 := hB
  dsimp only [mFs] at hB
  refine RUNM.of (by decide +kernel) (Nat.le_of_ble_eq_true rfl) ?_
  have r0 := hM 0
  refine r_aload_n (pc := 0) dX11_youngest_0 rfl (by first | rfl | exact isRefV_rf _) ?_
  refine r_iload_n (pc := 1) dX11_youngest_1 rfl ?_
  refine r_callV1 (pc := 2) dX11_youngest_2 qX11_isScope kX11_50 vX11_isScope (by exact isM.gx (by assumption)) rfl rfl (Nat.le_of_ble_eq_true rfl) (m_isScope (d + 1) hB ha ⟨by omega, by omega⟩) (fun v_2 h_2 q_2 => ?_)
  obtain ⟨rfl, rfl⟩ := q_2
  refine rj_if_ne (pc := 5) (tgt := 10) dX11_youngest_5 (by decide) (by first | assumption | exact b01_r | exact bz_r | omega | (constructor <;> omega) | exact hM _ | exact hPo _ | exact hTa _ | exact hRo _) (fun c_5 => ?_) (fun c_5 => ?_)
  · try simp only [b01_0, bz_0, Classical.not_not] at c_5
    refine rj_bipush (pc := 10) dX11_youngest_10 (by decide +kernel) ?_
    refine r_istore_n (pc := 12) dX11_youngest_12 (Nat.le_of_ble_eq_true rfl) ?_
    dsimp only [lsSt, List.set, mLs, mEnt]
    refine rj_iconst (pc := 13) dX11_youngest_13 ?_
    refine r_istore_n (pc := 14) dX11_youngest_14 (Nat.le_of_ble_eq_true rfl) ?_
    dsimp only [lsSt, List.set, mLs, mEnt]
    have z := L_youngest (G := G) (l := l) d hB0 hM hN hcap hC hC2 hP hO ha N 0 (-5) (by omega)
    unfold youngV
    rw [if_pos c_5]
    exact z
  · try simp only [b01_0, bz_0, Classical.not_not] at c_5
    refine rj_iconst (pc := 8) dX11_youngest_8 ?_
    refine r_ireturn (pc := 9) .int dX11_youngest_9 rfl (by first | rfl | assumption) ?_
    exact ⟨by unfold youngV; rw [if_neg c_5], rfl⟩
end mg_40

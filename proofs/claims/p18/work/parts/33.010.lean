section mg_34
set_option maxHeartbeats 4000000 in
set_option maxRecDepth 100000 in
theorem m_stepsIn {G : mG} {l : Launch} (d : Nat) {h : mH} {x s : Nat} {f4 f6 f8 f9 f10 f11 f12 f13 f14 f16 f18 : Int} {m kp was pool tape pln pap rwd rw : Nat → Int}(hB : isM h x (mFs x f4 f6 f8 f9 f10 f11 f12 f13 f14 f16 f18 s) m kp was pool tape pln pap rwd rw) {a b : Int} (hT : txOk 3 pool pool tape b) (h0 : 0 ≤ a) (h1 : a ≤ b) (h2 : 0 ≤ f11) (h3 : f11 ≤ 99999) : RUNM G l (d + 32) mX11_stepsIn [.ref x, .int (J a), .int (J b)] h (fun v h' => v = some (.int (J (stepsInV pool a b f11 f12))) ∧ ((a = b ∧ h' = h) ∨ (¬ a = b ∧ isM h' x (mFs x f4 f6 (stepsW pool b 0 true (a, -1, f11, f12, 90)).2.1 b (stepsW pool b 0 true (a, -1, f11, f12, 90)).2.2.1 (stepsW pool b 0 true (a, -1, f11, f12, 90)).2.2.2.1 (stepsW pool b 0 true (a, -1, f11, f12, 90)).2.2.2.2.1 (stepsW pool b 0 true (a, -1, f11, f12, 90)).2.2.2.2.2 f14 f16 f18 3) m kp was pool tape pln pap rwd rw ∧ Same (mBlk x) h h'))) := by
  have hB0 := hB
  dsimp only [mFs] at hB
  refine RUNM.of (by decide +kernel) (Nat.le_of_ble_eq_true rfl) ?_
  obtain ⟨ht1, ht2, ht3⟩ := id hT
  have h97 : b ≤ 12342 := by rcases ht1 with h | h <;> omega
  refine r_iload_n (pc := 0) dX11_stepsIn_0 rfl ?_
  refine r_iload_n (pc := 1) dX11_stepsIn_1 rfl ?_
  refine rj_icmp_ne (pc := 2) (tgt := 7) dX11_stepsIn_2 (by decide) (by first | assumption | exact b01_r | exact bz_r | omega | (constructor <;> omega) | exact hM _ | exact hPo _ | exact hTa _ | exact hRo _) (by first | assumption | exact b01_r | exact bz_r | omega | (constructor <;> omega) | exact hM _ | exact hPo _ | exact hTa _ | exact hRo _) (fun c_2 => ?_) (fun c_2 => ?_)
  · refine r_aload_n (pc := 7) dX11_stepsIn_7 rfl (by first | rfl | exact isRefV_rf _) ?_
    refine r_aload_n (pc := 8) dX11_stepsIn_8 rfl (by first | rfl | exact isRefV_rf _) ?_
    refine rm_getf (pc := 9) dX11_stepsIn_9 fX11_21 (by assumption) rfl ?_
    refine r_iload_n (pc := 12) dX11_stepsIn_12 rfl ?_
    refine r_iload_n (pc := 13) dX11_stepsIn_13 rfl ?_
    refine r_callV3 (pc := 14) dX11_stepsIn_14 qX11_begins kX11_115 vX11_begins (by exact isM.gx (by assumption)) rfl rfl (Nat.le_of_ble_eq_true rfl) (m_begins (d + 31) hB0) (fun v_14 h_14 q_14 => ?_)
    obtain ⟨rfl, hB_14, hS_14⟩ := q_14
    dsimp only [mFs] at hB_14
    refine r_aload_n (pc := 17) dX11_stepsIn_17 rfl (by first | rfl | exact isRefV_rf _) ?_
    refine rj_bipush (pc := 18) dX11_stepsIn_18 (by decide +kernel) ?_
    refine rm_putf (pc := 20) dX11_stepsIn_20 fX11_99 (by assumption) rfl rfl (Nat.le_of_ble_eq_true rfl) (fun h_20 hB_20 hS_20 => ?_)
    dsimp only [List.set, mFs] at hB_20
    refine r_aload_n (pc := 23) dX11_stepsIn_23 rfl (by first | rfl | exact isRefV_rf _) ?_
    refine rj_iconst (pc := 24) dX11_stepsIn_24 ?_
    refine rj_iconst (pc := 25) dX11_stepsIn_25 ?_
    refine r_callV2 (pc := 26) dX11_stepsIn_26 qX11_isStepsRead kX11_92 vX11_isStepsRead (by exact isM.gx (by assumption)) rfl rfl (Nat.le_of_ble_eq_true rfl) (by have y := m_stepsW (G := G) (l := l) (q := (a, -1, f11, f12, 90)) (f9 := b) (s := 3) (sr := pool) (w := 0) (it := true) hB_20 hT ⟨h0, h1, Int.le_refl _, (by show (-1 : Int) ≤ b; omega), h2, h3, (by show (0 : Int) ≤ 90; decide), (by show (90 : Int) ≤ a + 90; omega)⟩ (by decide) (by decide); rw [show bz true = 1 from bz_t rfl] at y; exact y.deeper (by omega)) (fun v_26 h_26 q_26 => ?_)
    obtain ⟨rfl, hB_26, hS_26⟩ := q_26
    refine r_pop (pc := 29) dX11_stepsIn_29 (by first | rfl | (cases ‹Option Nat› <;> rfl)) ?_
    refine r_aload_n (pc := 30) dX11_stepsIn_30 rfl (by first | rfl | exact isRefV_rf _) ?_
    refine rm_getf (pc := 31) dX11_stepsIn_31 fX11_112 (by assumption) rfl ?_
    refine r_ireturn (pc := 34) .int dX11_stepsIn_34 rfl (by first | rfl | assumption) ?_
    exact ⟨by unfold stepsInV; rw [if_neg (by omega)], Or.inr ⟨by omega, hB_26, (hS_14.trans hS_20).trans hS_26⟩⟩
  · refine rj_iconst (pc := 5) dX11_stepsIn_5 ?_
    refine r_ireturn (pc := 6) .int dX11_stepsIn_6 rfl (by first | rfl | assumption) ?_
    exact ⟨by unfold stepsInV; rw [if_pos (by omega)], Or.inl ⟨by omega, rfl⟩⟩
end mg_34

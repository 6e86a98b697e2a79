set_option maxHeartbeats 4000000 in
set_option maxRecDepth 100000 in
theorem m_plansOf {G : mG} {l : Launch} {x s : Nat} {f4 f6 f8 f9 f10 f11 f12 f13 f14 f18 : Int} {m kp was pool tape pap rwd rw : Nat → Int} (hok : mOk m) (h6 : InR (m 6 + 1)) : ∀ (n : Nat) (s2 : Int) (p : Nat → Int) (k : Nat) (p' : Nat → Int) (k' : Nat) (h : mH), InR s2 → plR m n s2 p k p' k' → isM h x (mFs x f4 f6 f8 f9 f10 f11 f12 f13 f14 (k : Int) f18 s) m kp was pool tape p pap rwd rw → RUNM G l (5 + n) mX11_plansOf [.ref x, .int (J s2)] h (fun v h' => v = none ∧ isM h' x (mFs x f4 f6 f8 f9 f10 f11 f12 f13 f14 (k' : Int) f18 s) m kp was pool tape p' pap rwd rw ∧ Same (mBlk x) h h') := by
  obtain ⟨hM, k0, k1, k2, k3, k4, k5, k7⟩ := id hok
  intro n
  induction n with
  | zero => intro s2 p k p' k' h hs hR; exact absurd hR id
  | succ n ih =>
    intro s2 p k p' k' h hs hR hB
    obtain ⟨j, hR⟩ := hR
    have hB0 := hB
    have re := eaI_r (m := m) (s := s2) (st := m 6 + 1)
    rw [show 5 + (n + 1) = 5 + n + 1 by omega]
    dsimp only [mFs] at hB
    refine RUNM.of (by decide +kernel) (Nat.le_of_ble_eq_true rfl) ?_
    refine r_aload_n (pc := 0) dX11_plansOf_0 rfl (by first | rfl | exact isRefV_rf _) ?_
    refine r_iload_n (pc := 1) dX11_plansOf_1 rfl ?_
    refine r_aload_n (pc := 2) dX11_plansOf_2 rfl (by first | rfl | exact isRefV_rf _) ?_
    refine rm_getf (pc := 3) dX11_plansOf_3 fX11_11 (by assumption) rfl ?_
    refine rj_bipush (pc := 6) dX11_plansOf_6 (by decide +kernel) ?_
    refine rj_iald (pc := 8) (j := 6) dX11_plansOf_8 (by first | exact isM.g0 (by assumption) | exact isM.g3 (by assumption) | exact isM.g4 (by assumption) | exact isM.g8 (by assumption) | exact isM.g7 (by assumption) | exact isM.g6 (by assumption) | exact isM.g5 (by assumption) | exact isM.g1 (by assumption) | exact isM.g2 (by assumption)) (by first | assumption | exact b01_r | exact bz_r | omega | (constructor <;> omega) | exact hM _ | exact hPo _ | exact hTa _ | exact hRo _) (by first | assumption | exact b01_r | exact bz_r | omega | (constructor <;> omega) | exact hM _ | exact hPo _ | exact hTa _ | exact hRo _) (by first | assumption | exact b01_r | exact bz_r | omega | (constructor <;> omega) | exact hM _ | exact hPo _ | exact hTa _ | exact hRo _) (by omega) ?_
    refine rj_iconst (pc := 9) dX11_plansOf_9 ?_
    refine rj_iadd (pc := 10) dX11_plansOf_10 ?_
    refine r_callV2 (pc := 11) dX11_plansOf_11 qX11_entryAhead kX11_261 vX11_entryAhead (by exact isM.gx (by assumption)) rfl rfl (Nat.le_of_ble_eq_true rfl) (by have y := m_entryAhead (G := G) (l := l) 0 hB0 hM (N := (m 1).toNat) (C := (m 0).toNat) (by omega) (by omega) (by omega) (by omega) (a := s2) hs (st := m 6 + 1) h6; rw [show eaL m (m 1).toNat (m 0).toNat s2 (m 6 + 1) 160 0 (-5) = eaI m s2 (m 6 + 1) from rfl] at y; exact y.deeper (by omega)) (fun v_11 h_11 q_11 => ?_)
    obtain ⟨rfl, rfl⟩ := q_11
    refine r_istore_n (pc := 14) dX11_plansOf_14 (Nat.le_of_ble_eq_true rfl) ?_
    dsimp only [lsSt, List.set, mLs, mEnt]
    exact L_plansOf (D := 5 + n) (by omega) hok ih hs j _ p k _ re.1 re.2 hR hB0

section mg_71
set_option maxHeartbeats 4000000 in
set_option maxRecDepth 100000 in
theorem m_turn {G : mG} {l : Launch} {D : Nat} (hD : 280 ≤ D) {x s : Nat} {f4 f6 f8 f9 f10 f11 f12 f13 f14 f16 f18 : Int} {kp was pool tape pln pap rwd rw : Nat → Int} (hPo : ∀ q, InR (pool q)) {cl : (Nat → Int) → Nat → (Nat → Int) → Prop} {sh : (Nat → Int) → Int → (Nat → Int) → Prop} {t : Nat} (hcl : ∀ (m1 m2 : Nat → Int) (u : Nat) (h : mH), isM h x (mFs x f4 f6 f8 f9 f10 f11 f12 f13 (t : Int) f16 f18 s) m1 kp was pool tape pln pap rwd rw → cl m1 u m2 → RUNM G l D mX11_closes [.ref x, .int (J (u : Int))] h (fun v h' => v = none ∧ isM h' x (mFs x f4 f6 f8 f9 f10 f11 f12 f13 (t : Int) f16 f18 s) m2 kp was pool tape pln pap rwd rw ∧ Same (mBlk x) h h')) (hsh : ∀ (m1 m2 : Nat → Int) (e : Int) (h : mH), isM h x (mFs x f4 f6 f8 f9 f10 f11 f12 f13 (t : Int) f16 f18 s) m1 kp was pool tape pln pap rwd rw → sh m1 e m2 → RUNM G l D mX11_shuts [.ref x, .int (J e)] h (fun v h' => v = none ∧ isM h' x (mFs x f4 f6 f8 f9 f10 f11 f12 f13 (t : Int) f16 f18 s) m2 kp was pool tape pln pap rwd rw ∧ Same (mBlk x) h h')) {m m' : Nat → Int} {h : mH} (hB : isM h x (mFs x f4 f6 f8 f9 f10 f11 f12 f13 f14 f16 f18 s) m kp was pool tape pln pap rwd rw) (hR : turnR pool cl sh m t m') : RUNM G l (D + 5) mX11_turn [.ref x, .int (J (t : Int))] h (fun v h' => v = none ∧ isM h' x (mFs x f4 f6 f8 f9 f10 f11 f12 f13 (t : Int) f16 f18 s) m' kp was pool tape pln pap rwd rw ∧ Same (mBlk x) h h') := by
  obtain ⟨ht, hok, ⟨n, hn, hc⟩, hR⟩ := hR
  obtain ⟨hM, k0, k1, k2, k3, k4, k5, k7⟩ := id hok
  have hB0 := hB
  dsimp only [mFs] at hB
  have e1 : updI m 7 (m 7 + 1) (1612 + 72 * t) = m (1612 + 72 * t) := updI_n (by omega)
  have e2 : updI (updI m 7 (m 7 + 1)) (1612 + 72 * t) (m (1612 + 72 * t) + 1) 7 = m 7 + 1 := (updI_n (by omega)).trans updI_s
  have e3 : turnM m t (1619 + 72 * t) = n := by unfold turnM; rw [updI_n (by omega), updI_n (by omega), updI_n (by omega)]; exact hc
  refine RUNM.of (by decide +kernel) (Nat.le_of_ble_eq_true rfl) ?_
  refine L_turn0 hB0 ht ?_
  intro h1 hB1 hS1
  have hB2 := hB1
  dsimp only [mFs] at hB2
  have fi : RUNM G l (D + 3) mX11_isFine [.ref x, .int (J (t : Int))] h1 (fun v h' => v = some (.int (J (bz (fineV (turnM m t) t)))) ∧ h' = h1) := (m_isFine 0 hB1 hM k0 (by omega) (by omega) (by rw [show (1619 + 72 * (t : Int)).toNat = 1619 + 72 * t by omega, e3]; omega)).deeper (by omega)
  rcases hR with ⟨hf, hR⟩ | ⟨hf, p, E, k, hE, hp, hE2, hp2, hL⟩
  · refine r_aload_n (pc := 49) dX11_turn_49 rfl (by first | rfl | exact isRefV_rf _) ?_
    refine r_iload_n (pc := 50) dX11_turn_50 rfl ?_
    refine r_callV1 (pc := 51) dX11_turn_51 qX11_isFine kX11_189 vX11_isFine (by exact isM.gx (by assumption)) rfl rfl (Nat.le_of_ble_eq_true rfl) (fi.deeper (by omega)) (fun v_51 h_51 q_51 => ?_)
    obtain ⟨rfl, rfl⟩ := q_51
    refine rj_if_ne (pc := 54) (tgt := 64) dX11_turn_54 (by decide) (by first | assumption | exact b01_r | exact bz_r | omega | (constructor <;> omega) | exact hM _ | exact hPo _ | exact hTa _ | exact hRo _) (fun c_54 => ?_) (fun c_54 => ?_)
    · try simp only [b01_0, bz_0, Classical.not_not] at c_54
      rw [hf] at c_54; exact absurd c_54 (by decide)
    · try simp only [b01_0, bz_0, Classical.not_not] at c_54
      refine r_aload_n (pc := 57) dX11_turn_57 rfl (by first | rfl | exact isRefV_rf _) ?_
      refine r_iload_n (pc := 58) dX11_turn_58 rfl ?_
      refine rj_iconst (pc := 59) dX11_turn_59 ?_
      refine r_callV2 (pc := 60) dX11_turn_60 qX11_isOver kX11_192 vX11_isOver (by exact isM.gx (by assumption)) rfl rfl (Nat.le_of_ble_eq_true rfl) ((m_isOver hD hsh hB1 hR).deeper (by omega)) (fun v_60 h_60 q_60 => ?_)
      obtain ⟨rfl, hB_60, S_60⟩ := q_60
      refine r_return (pc := 63) dX11_turn_63 rfl ?_
      exact ⟨rfl, hB_60, hS1.trans S_60⟩
  · have f1 : turnM m t (1617 + 72 * t) = E := by unfold turnM; rw [updI_n (by omega), updI_n (by omega), updI_n (by omega)]; exact hE
    have f2 : turnM m t (1611 + 72 * t) = p := by unfold turnM; rw [updI_n (by omega), updI_n (by omega), updI_n (by omega)]; exact hp
    refine r_aload_n (pc := 49) dX11_turn_49 rfl (by first | rfl | exact isRefV_rf _) ?_
    refine r_iload_n (pc := 50) dX11_turn_50 rfl ?_
    refine r_callV1 (pc := 51) dX11_turn_51 qX11_isFine kX11_189 vX11_isFine (by exact isM.gx (by assumption)) rfl rfl (Nat.le_of_ble_eq_true rfl) (fi.deeper (by omega)) (fun v_51 h_51 q_51 => ?_)
    obtain ⟨rfl, rfl⟩ := q_51
    refine rj_if_ne (pc := 54) (tgt := 64) dX11_turn_54 (by decide) (by first | assumption | exact b01_r | exact bz_r | omega | (constructor <;> omega) | exact hM _ | exact hPo _ | exact hTa _ | exact hRo _) (fun c_54 => ?_) (fun c_54 => ?_)
    · try simp only [b01_0, bz_0, Classical.not_not] at c_54
      refine r_aload_n (pc := 64) dX11_turn_64 rfl (by first | rfl | exact isRefV_rf _) ?_
      refine rm_getf (pc := 65) dX11_turn_65 fX11_11 (by assumption) rfl ?_
      refine r_iload_n (pc := 68) dX11_turn_68 rfl ?_
      refine rj_bipush (pc := 69) dX11_turn_69 (by decide +kernel) ?_
      refine rj_iconst (pc := 71) dX11_turn_71 ?_
      refine r_callS3 (pc := 72) dX11_turn_72 qX11_ofTask kX11_58 sX11_ofTask (Nat.le_of_ble_eq_true rfl) (m_ofTask _) (fun v_72 h_72 q_72 => ?_)
      obtain ⟨rfl, rfl⟩ := q_72
      refine rj_iald (pc := 75) (j := 1617 + 72 * t) dX11_turn_75 (by first | exact isM.g0 (by assumption) | exact isM.g3 (by assumption) | exact isM.g4 (by assumption) | exact isM.g8 (by assumption) | exact isM.g7 (by assumption) | exact isM.g6 (by assumption) | exact isM.g5 (by assumption) | exact isM.g1 (by assumption) | exact isM.g2 (by assumption)) (by first | assumption | exact b01_r | exact bz_r | omega | (constructor <;> omega) | exact hM _ | exact hPo _ | exact hTa _ | exact hRo _) (by first | assumption | exact b01_r | exact bz_r | omega | (constructor <;> omega) | exact hM _ | exact hPo _ | exact hTa _ | exact hRo _) (by first | assumption | exact b01_r | exact bz_r | omega | (constructor <;> omega) | exact hM _ | exact hPo _ | exact hTa _ | exact hRo _) (by omega) ?_
      rw [f1]
      refine r_istore_n (pc := 76) dX11_turn_76 (Nat.le_of_ble_eq_true rfl) ?_
      dsimp only [lsSt, List.set, mLs, mEnt]
      refine r_aload_n (pc := 77) dX11_turn_77 rfl (by first | rfl | exact isRefV_rf _) ?_
      refine rm_getf (pc := 78) dX11_turn_78 fX11_11 (by assumption) rfl ?_
      refine r_iload_n (pc := 81) dX11_turn_81 rfl ?_
      refine rj_iconst (pc := 82) dX11_turn_82 ?_
      refine rj_iconst (pc := 83) dX11_turn_83 ?_
      refine r_callS3 (pc := 84) dX11_turn_84 qX11_ofTask kX11_58 sX11_ofTask (Nat.le_of_ble_eq_true rfl) (m_ofTask _) (fun v_84 h_84 q_84 => ?_)
      obtain ⟨rfl, rfl⟩ := q_84
      refine rj_iald (pc := 87) (j := 1611 + 72 * t) dX11_turn_87 (by first | exact isM.g0 (by assumption) | exact isM.g3 (by assumption) | exact isM.g4 (by assumption) | exact isM.g8 (by assumption) | exact isM.g7 (by assumption) | exact isM.g6 (by assumption) | exact isM.g5 (by assumption) | exact isM.g1 (by assumption) | exact isM.g2 (by assumption)) (by first | assumption | exact b01_r | exact bz_r | omega | (constructor <;> omega) | exact hM _ | exact hPo _ | exact hTa _ | exact hRo _) (by first | assumption | exact b01_r | exact bz_r | omega | (constructor <;> omega) | exact hM _ | exact hPo _ | exact hTa _ | exact hRo _) (by first | assumption | exact b01_r | exact bz_r | omega | (constructor <;> omega) | exact hM _ | exact hPo _ | exact hTa _ | exact hRo _) (by omega) ?_
      rw [f2]
      refine r_istore_n (pc := 88) dX11_turn_88 (Nat.le_of_ble_eq_true rfl) ?_
      dsimp only [lsSt, List.set, mLs, mEnt]
      refine rj_iconst (pc := 89) dX11_turn_89 ?_
      refine r_istore (pc := 90) dX11_turn_90 (Nat.le_of_ble_eq_true rfl) ?_
      dsimp only [lsSt, List.set, mLs, mEnt]
      exact ((L_turn hD hPo hcl hsh ht hE2 k _ p _ _ hB1 hp2 hL).deeper (by omega)).mono (fun v h' q => ⟨q.1, q.2.1, hS1.trans q.2.2⟩)
    · try simp only [b01_0, bz_0, Classical.not_not] at c_54
      rw [hf] at c_54; exact absurd c_54 (by decide)
end mg_71

set_option maxHeartbeats 4000000 in
set_option maxRecDepth 100000 in
theorem m_spell {G : mG} {l : Launch} (d : Nat) {x s : Nat} {f4 f6 f8 f9 f10 f11 f12 f13 f14 f16 f18 : Int} {m kp was pool tape pln pap rwd rw : Nat → Int} {h : mH} (hB : isM h x (mFs x f4 f6 f8 f9 f10 f11 f12 f13 f14 f16 f18 s) m kp was pool tape pln pap rwd rw) (hok : mOk m) (hPo : ∀ q, InR (pool q)) {t : Int} (ht : InR t) {P E : Nat} (hE : (0 ≤ t ∧ t ≤ m 1 - 1) → m (262 + 14 * t).toNat = P ∧ m (263 + 14 * t).toNat = E ∧ E ≤ 12300 ∧ P ≤ E ∧ E - P ≤ 120 ∧ minOk pool P E) : RUNM G l (d + 3) mX11_spell [.ref x, .int (J t)] h (fun v h' => (¬ (0 ≤ t ∧ t ≤ m 1 - 1) ∧ v = some (.int (J (-1))) ∧ h' = h) ∨ ((0 ≤ t ∧ t ≤ m 1 - 1) ∧ v = some (.int (J ((spS pool E (E - P) P false pap 0).2 : Int))) ∧ isM h' x (mFs x f4 f6 f8 f9 f10 f11 f12 f13 f14 f16 ((spS pool E (E - P) P false pap 0).2 : Int) s) m kp was pool tape pln (spS pool E (E - P) P false pap 0).1 rwd rw ∧ Same (mBlk x) h h')) := by
  obtain ⟨hM, k0, k1, k2, k3, k4, k5, k7⟩ := id hok
  have hB0 := hB
  dsimp only [mFs] at hB
  refine RUNM.of (by decide +kernel) (Nat.le_of_ble_eq_true rfl) ?_
  refine r_aload_n (pc := 0) dX11_spell_0 rfl (by first | rfl | exact isRefV_rf _) ?_
  refine r_iload_n (pc := 1) dX11_spell_1 rfl ?_
  refine r_callV1 (pc := 2) dX11_spell_2 qX11_isThing kX11_238 vX11_isThing (by exact isM.gx (by assumption)) rfl rfl (Nat.le_of_ble_eq_true rfl) (m_isThing _ hB0 ht ⟨by omega, by omega⟩) (fun v_2 h_2 q_2 => ?_)
  obtain ⟨rfl, rfl⟩ := q_2
  refine rj_if_ne (pc := 5) (tgt := 10) dX11_spell_5 (by decide) (by first | assumption | exact b01_r | exact bz_r | omega | (constructor <;> omega) | exact hM _ | exact hPo _ | exact hTa _ | exact hRo _) (fun c_5 => ?_) (fun c_5 => ?_)
  · try simp only [b01_0, bz_0, Classical.not_not] at c_5
    obtain ⟨z1, z2, z3, z4, z5, z6⟩ := hE c_5
    refine r_aload_n (pc := 10) dX11_spell_10 rfl (by first | rfl | exact isRefV_rf _) ?_
    refine r_aload_n (pc := 11) dX11_spell_11 rfl (by first | rfl | exact isRefV_rf _) ?_
    refine rm_getf (pc := 12) dX11_spell_12 fX11_11 (by assumption) rfl ?_
    refine r_iload_n (pc := 15) dX11_spell_15 rfl ?_
    refine rj_iconst (pc := 16) dX11_spell_16 ?_
    refine rj_iconst (pc := 17) dX11_spell_17 ?_
    refine r_callS3 (pc := 18) dX11_spell_18 qX11_ofThing kX11_54 sX11_ofThing (Nat.le_of_ble_eq_true rfl) (m_ofThing _) (fun v_18 h_18 q_18 => ?_)
    obtain ⟨rfl, rfl⟩ := q_18
    refine rj_iald (pc := 21) (j := (262 + 14 * t).toNat) dX11_spell_21 (by first | exact isM.g0 (by assumption) | exact isM.g3 (by assumption) | exact isM.g4 (by assumption) | exact isM.g8 (by assumption) | exact isM.g7 (by assumption) | exact isM.g6 (by assumption) | exact isM.g5 (by assumption) | exact isM.g1 (by assumption) | exact isM.g2 (by assumption)) (by first | assumption | exact b01_r | exact bz_r | omega | (constructor <;> omega) | exact hM _ | exact hPo _ | exact hTa _ | exact hRo _) (by first | assumption | exact b01_r | exact bz_r | omega | (constructor <;> omega) | exact hM _ | exact hPo _ | exact hTa _ | exact hRo _) (by first | assumption | exact b01_r | exact bz_r | omega | (constructor <;> omega) | exact hM _ | exact hPo _ | exact hTa _ | exact hRo _) (by omega) ?_
    rw [z1]
    refine r_aload_n (pc := 22) dX11_spell_22 rfl (by first | rfl | exact isRefV_rf _) ?_
    refine rm_getf (pc := 23) dX11_spell_23 fX11_11 (by assumption) rfl ?_
    refine r_iload_n (pc := 26) dX11_spell_26 rfl ?_
    refine rj_iconst (pc := 27) dX11_spell_27 ?_
    refine rj_iconst (pc := 28) dX11_spell_28 ?_
    refine r_callS3 (pc := 29) dX11_spell_29 qX11_ofThing kX11_54 sX11_ofThing (Nat.le_of_ble_eq_true rfl) (m_ofThing _) (fun v_29 h_29 q_29 => ?_)
    obtain ⟨rfl, rfl⟩ := q_29
    refine rj_iald (pc := 32) (j := (263 + 14 * t).toNat) dX11_spell_32 (by first | exact isM.g0 (by assumption) | exact isM.g3 (by assumption) | exact isM.g4 (by assumption) | exact isM.g8 (by assumption) | exact isM.g7 (by assumption) | exact isM.g6 (by assumption) | exact isM.g5 (by assumption) | exact isM.g1 (by assumption) | exact isM.g2 (by assumption)) (by first | assumption | exact b01_r | exact bz_r | omega | (constructor <;> omega) | exact hM _ | exact hPo _ | exact hTa _ | exact hRo _) (by first | assumption | exact b01_r | exact bz_r | omega | (constructor <;> omega) | exact hM _ | exact hPo _ | exact hTa _ | exact hRo _) (by first | assumption | exact b01_r | exact bz_r | omega | (constructor <;> omega) | exact hM _ | exact hPo _ | exact hTa _ | exact hRo _) (by omega) ?_
    rw [z2]
    refine r_callV2 (pc := 33) dX11_spell_33 qX11_spells kX11_301 vX11_spells (by exact isM.gx (by assumption)) rfl rfl (Nat.le_of_ble_eq_true rfl) (m_spells d hB0 hPo z3 z4 z5 z6) (fun v_33 h_33 q_33 => ?_)
    obtain ⟨rfl, hB_33, S_33⟩ := q_33
    have hBc := hB_33
    dsimp only [mFs] at hBc
    refine r_aload_n (pc := 36) dX11_spell_36 rfl (by first | rfl | exact isRefV_rf _) ?_
    refine rm_getf (pc := 37) dX11_spell_37 fX11_298 (by assumption) rfl ?_
    refine r_ireturn (pc := 40) .int dX11_spell_40 rfl (by first | rfl | assumption) ?_
    exact Or.inr ⟨c_5, rfl, hB_33, S_33⟩
  · try simp only [b01_0, bz_0, Classical.not_not] at c_5
    refine rj_iconst (pc := 8) dX11_spell_8 ?_
    refine r_ireturn (pc := 9) .int dX11_spell_9 rfl (by first | rfl | assumption) ?_
    exact Or.inl ⟨c_5, rfl, rfl⟩

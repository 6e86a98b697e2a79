section mg_75
set_option maxHeartbeats 4000000 in
set_option maxRecDepth 100000 in
theorem m_rename {G : mG} {l : Launch} {h : mH} {x s : Nat} {f4 f6 f8 f9 f10 f11 f12 f13 f14 f16 f18 : Int} {m kp was pool tape pln pap rwd rw : Nat → Int}(hB : isM h x (mFs x f4 f6 f8 f9 f10 f11 f12 f13 f14 f16 f18 s) m kp was pool tape pln pap rwd rw) (hok : mOk m) (hT : bytesOk tape) (h6 : 0 ≤ f6 ∧ f6 ≤ 120) (h11 : 0 ≤ f11 ∧ f11 ≤ 99999) {t : Int} (ht : InR t) : RUNM G l 40 mX11_rename [.ref x, .int (J t)] h (fun v h' => (¬ closeDo m t ∧ v = some (.int (J (closeN m t))) ∧ h' = h) ∨ (closeDo m t ∧ v = some (.int (J (renF m tape t.toNat f6 f11 f12).1)) ∧ isMs h' x f4 0 f14 f16 f18 (renF m tape t.toNat f6 f11 f12).2 kp was pool tape pln pap rwd rw ∧ Same (mBlk x) h h')) := by
  obtain ⟨hM, k0, k1, k2, k3, k4, k5, k7⟩ := id hok
  have hB0 := hB
  have hTx : txOk 4 tape pool tape f6 := ⟨Or.inl ⟨rfl, rfl, h6.2⟩, h6.1, hT⟩
  have hq0 : psOk f6 (ps0 f11 f12) := ps0_ok h6.1 h11
  have hqn := name_ok (sr := tape) hq0
  have hTa : ∀ q, InR (tape q) := fun q => by have := hT q; exact ⟨by omega, by omega⟩
  have hw2 : (renR tape f6 f11 f12).2 = (if nameB tape f6 (ps0 f11 f12) then (wholeR f6 (nameF tape f6 (ps0 f11 f12))).2 else nameF tape f6 (ps0 f11 f12)) := by
    unfold renR wR; by_cases c : nameB tape f6 (ps0 f11 f12) <;> simp [c]
  have hw1 : (renR tape f6 f11 f12).1 = (if nameB tape f6 (ps0 f11 f12) then (wholeR f6 (nameF tape f6 (ps0 f11 f12))).1 else false) := by
    unfold renR wR; by_cases c : nameB tape f6 (ps0 f11 f12) <;> simp [c]
  dsimp only [mFs] at hB
  refine RUNM.of (by decide +kernel) (Nat.le_of_ble_eq_true rfl) ?_
  refine r_aload_n (pc := 0) dX11_rename_0 rfl (by first | rfl | exact isRefV_rf _) ?_
  refine r_iload_n (pc := 1) dX11_rename_1 rfl ?_
  refine r_callV1 (pc := 2) dX11_rename_2 qX11_isThing kX11_238 vX11_isThing (by exact isM.gx (by assumption)) rfl rfl (Nat.le_of_ble_eq_true rfl) ((m_isThing 0 hB0 ht ⟨by omega, by omega⟩).deeper (by omega)) (fun v_2 h_2 q_2 => ?_)
  obtain ⟨rfl, rfl⟩ := q_2
  refine rj_if_ne (pc := 5) (tgt := 10) dX11_rename_5 (by decide) (by first | assumption | exact b01_r | exact bz_r | omega | (constructor <;> omega) | exact hM _ | exact hPo _ | exact hTa _ | exact hRo _) (fun c_5 => ?_) (fun c_5 => ?_)
  · try simp only [b01_0, bz_0, Classical.not_not] at c_5
    refine r_aload_n (pc := 10) dX11_rename_10 rfl (by first | rfl | exact isRefV_rf _) ?_
    refine r_iload_n (pc := 11) dX11_rename_11 rfl ?_
    refine r_callV1 (pc := 12) dX11_rename_12 qX11_isHeld kX11_119 vX11_isHeld (by exact isM.gx (by assumption)) rfl rfl (Nat.le_of_ble_eq_true rfl) ((m_isHeld 0 hB0 hM (by omega) (by omega)).deeper (by omega)) (fun v_12 h_12 q_12 => ?_)
    obtain ⟨rfl, rfl⟩ := q_12
    refine rj_if_ne (pc := 15) (tgt := 21) dX11_rename_15 (by decide) (by first | assumption | exact b01_r | exact bz_r | omega | (constructor <;> omega) | exact hM _ | exact hPo _ | exact hTa _ | exact hRo _) (fun c_15 => ?_) (fun c_15 => ?_)
    · try simp only [b01_0, bz_0, Classical.not_not] at c_15
      refine r_aload_n (pc := 21) dX11_rename_21 rfl (by first | rfl | exact isRefV_rf _) ?_
      refine rm_getf (pc := 22) dX11_rename_22 fX11_61 (by assumption) rfl ?_
      refine r_istore_n (pc := 25) dX11_rename_25 (Nat.le_of_ble_eq_true rfl) ?_
      dsimp only [lsSt, List.set, mLs, mEnt]
      refine r_aload_n (pc := 26) dX11_rename_26 rfl (by first | rfl | exact isRefV_rf _) ?_
      refine rj_iconst (pc := 27) dX11_rename_27 ?_
      refine rm_putf (pc := 28) dX11_rename_28 fX11_61 (by assumption) rfl rfl (Nat.le_of_ble_eq_true rfl) (fun h_28 hB_28 hS_28 => ?_)
      dsimp only [List.set, mFs] at hB_28
      refine r_aload_n (pc := 31) dX11_rename_31 rfl (by first | rfl | exact isRefV_rf _) ?_
      refine r_aload_n (pc := 32) dX11_rename_32 rfl (by first | rfl | exact isRefV_rf _) ?_
      refine rm_getf (pc := 33) dX11_rename_33 fX11_24 (by assumption) rfl ?_
      refine rj_iconst (pc := 36) dX11_rename_36 ?_
      refine r_iload_n (pc := 37) dX11_rename_37 rfl ?_
      refine r_callV3 (pc := 38) dX11_rename_38 qX11_begins kX11_115 vX11_begins (by exact isM.gx (by assumption)) rfl rfl (Nat.le_of_ble_eq_true rfl) ((m_begins 0 (show isM h_28 x (mFs x f4 0 f8 f9 f10 f11 f12 f13 f14 f16 f18 s) m kp was pool tape pln pap rwd rw from hB_28)).deeper (by omega)) (fun v_38 h_38 q_38 => ?_)
      obtain ⟨rfl, hB_38, S_38⟩ := q_38
      have hQ_38 : isM h_38 x (mFs x f4 0 (ps0 f11 f12).1 f6 (ps0 f11 f12).2.1 (ps0 f11 f12).2.2.1 (ps0 f11 f12).2.2.2.1 (ps0 f11 f12).2.2.2.2 f14 f16 f18 4) m kp was pool tape pln pap rwd rw := hB_38
      refine r_aload_n (pc := 41) dX11_rename_41 rfl (by first | rfl | exact isRefV_rf _) ?_
      refine r_callV0 (pc := 42) dX11_rename_42 qX11_isName kX11_88 vX11_isName (by exact isM.gx (by assumption)) rfl rfl (Nat.le_of_ble_eq_true rfl) ((m_isName 0 hQ_38 hTx hq0).deeper (by omega)) (fun v_42 h_42 q_42 => ?_)
      obtain ⟨rfl, hB_42, S_42⟩ := q_42
      refine rj_if_eq (pc := 45) (tgt := 55) dX11_rename_45 (by decide) (by first | assumption | exact b01_r | exact bz_r | omega | (constructor <;> omega) | exact hM _ | exact hPo _ | exact hTa _ | exact hRo _) (fun c_45 => ?_) (fun c_45 => ?_)
      · try simp only [b01_0, bz_0, Classical.not_not] at c_45
        refine rj_bipush (pc := 55) dX11_rename_55 (by decide +kernel) ?_
        refine r_aload_n (pc := 57) dX11_rename_57 rfl (by first | rfl | exact isRefV_rf _) ?_
        refine rm_getf (pc := 58) dX11_rename_58 fX11_71 (by assumption) rfl ?_
        refine rj_isub (pc := 61) dX11_rename_61 ?_
        refine r_ireturn (pc := 62) .int dX11_rename_62 rfl (by first | rfl | assumption) ?_
        first
        | (have z1 : (renR tape f6 f11 f12).1 = false := by rw [hw1, if_neg c_45]
           have z2 : (renR tape f6 f11 f12).2 = (nameF tape f6 (ps0 f11 f12)) := by rw [hw2, if_neg c_45]
           have z3 : renF m tape t.toNat f6 f11 f12 = (-100 - (nameF tape f6 (ps0 f11 f12)).2.1, m) := by unfold renF; rw [if_neg (by rw [z1]; decide), z2]
           rw [z3]
           exact Or.inr ⟨⟨c_5, c_15⟩, rfl, hB_42.isMs ⟨hqn.2.2.2.2.1, hqn.2.2.2.2.2.1⟩, ((hS_28.trans S_38).trans S_42)⟩)
        | (have z1 : (renR tape f6 f11 f12).1 = false := by rw [hw1, if_pos c_45]; simpa using c_52
           have z2 : (renR tape f6 f11 f12).2 = (wholeR f6 (nameF tape f6 (ps0 f11 f12))).2 := by rw [hw2, if_pos c_45]
           have z3 : renF m tape t.toNat f6 f11 f12 = (-100 - (wholeR f6 (nameF tape f6 (ps0 f11 f12))).2.2.1, m) := by unfold renF; rw [if_neg (by rw [z1]; decide), z2]
           rw [z3]
           exact Or.inr ⟨⟨c_5, c_15⟩, rfl, hB_49.isMs ⟨hwo.2.2.2.2.1, hwo.2.2.2.2.2.1⟩, (((hS_28.trans S_38).trans S_42).trans S_49)⟩)
      · try simp only [b01_0, bz_0, Classical.not_not] at c_45
        refine r_aload_n (pc := 48) dX11_rename_48 rfl (by first | rfl | exact isRefV_rf _) ?_
        refine r_callV0 (pc := 49) dX11_rename_49 qX11_isWhole kX11_217 vX11_isWhole (by exact isM.gx (by assumption)) rfl rfl (Nat.le_of_ble_eq_true rfl) ((m_isWhole 0 hB_42 hTx hqn).deeper (by omega)) (fun v_49 h_49 q_49 => ?_)
        obtain ⟨rfl, hB_49, S_49⟩ := q_49
        have hwo := wholeR_ok hqn
        refine rj_if_ne (pc := 52) (tgt := 63) dX11_rename_52 (by decide) (by first | assumption | exact b01_r | exact bz_r | omega | (constructor <;> omega) | exact hM _ | exact hPo _ | exact hTa _ | exact hRo _) (fun c_52 => ?_) (fun c_52 => ?_)
        · try simp only [b01_0, bz_0, Classical.not_not] at c_52
          have z1 : (renR tape f6 f11 f12).1 = true := by rw [hw1, if_pos c_45]; simpa using c_52
          have z7 := renR_7 z1
          have rhb := hbL_r (m := m) (rc := tape) (fr := 0) (to := f6.toNat) (m 1).toNat 0
          refine r_aload_n (pc := 63) dX11_rename_63 rfl (by first | rfl | exact isRefV_rf _) ?_
          refine r_aload_n (pc := 64) dX11_rename_64 rfl (by first | rfl | exact isRefV_rf _) ?_
          refine rm_getf (pc := 65) dX11_rename_65 fX11_24 (by assumption) rfl ?_
          refine rj_iconst (pc := 68) dX11_rename_68 ?_
          refine r_iload_n (pc := 69) dX11_rename_69 rfl ?_
          refine r_callV3 (pc := 70) dX11_rename_70 qX11_heldBy kX11_163 vX11_heldBy (by exact isM.gx (by assumption)) rfl rfl (Nat.le_of_ble_eq_true rfl) (by have y := m_heldBy (G := G) (l := l) 0 hB_49 hM (rs := 4) (rc := tape) (fr := 0) (to := f6.toNat) (Or.inl ⟨rfl, rfl, by omega⟩) (by omega) hTa (N := (m 1).toNat) (by omega) (by omega) (fun t ht => k7 t (by omega)); rw [show ((f6.toNat : Nat) : Int) = f6 by omega] at y; exact y.deeper (by omega)) (fun v_70 h_70 q_70 => ?_)
          obtain ⟨rfl, rfl⟩ := q_70
          refine rj_if_lt (pc := 73) (tgt := 79) dX11_rename_73 (by decide) (by first | assumption | exact b01_r | exact bz_r | omega | (constructor <;> omega) | exact hM _ | exact hPo _ | exact hTa _ | exact hRo _) (fun c_73 => ?_) (fun c_73 => ?_)
          · refine r_aload_n (pc := 79) dX11_rename_79 rfl (by first | rfl | exact isRefV_rf _) ?_
            refine r_iload_n (pc := 80) dX11_rename_80 rfl ?_
            refine r_aload_n (pc := 81) dX11_rename_81 rfl (by first | rfl | exact isRefV_rf _) ?_
            refine rm_getf (pc := 82) dX11_rename_82 fX11_24 (by assumption) rfl ?_
            refine rj_iconst (pc := 85) dX11_rename_85 ?_
            refine r_iload_n (pc := 86) dX11_rename_86 rfl ?_
            refine r_callV4 (pc := 87) dX11_rename_87 qX11_names kX11_129 vX11_names (by exact isM.gx (by assumption)) rfl rfl (Nat.le_of_ble_eq_true rfl) (by have y := m_names (G := G) (l := l) 0 hB_49 (rs := 4) (rc := tape) (fr := 0) (to := f6.toNat) (Or.inl ⟨rfl, rfl, by omega⟩) (by omega) (by omega) (t := t.toNat) (by omega); rw [show ((f6.toNat : Nat) : Int) = f6 by omega, show ((t.toNat : Nat) : Int) = t by omega] at y; exact y.deeper (by omega)) (fun v_87 h_87 q_87 => ?_)
            obtain ⟨rfl, hB_87, S_87⟩ := q_87
            refine r_iload_n (pc := 90) dX11_rename_90 rfl ?_
            refine r_ireturn (pc := 91) .int dX11_rename_91 rfl (by first | rfl | assumption) ?_
            have z3 : renF m tape t.toNat f6 f11 f12 = (f6, namesM m tape t.toNat 0 f6.toNat) := by unfold renF; rw [if_pos z1, if_neg (by omega)]
            rw [z3]
            exact Or.inr ⟨⟨c_5, c_15⟩, rfl, hB_87.isMs ⟨hwo.2.2.2.2.1, hwo.2.2.2.2.2.1⟩, ((((hS_28.trans S_38).trans S_42).trans S_49).trans S_87)⟩
          · refine rj_bipush (pc := 76) dX11_rename_76 (by decide +kernel) ?_
            refine r_ireturn (pc := 78) .int dX11_rename_78 rfl (by first | rfl | assumption) ?_
            have z3 : renF m tape t.toNat f6 f11 f12 = (-3, m) := by unfold renF; rw [if_pos z1, if_pos (by omega)]
            rw [z3]
            exact Or.inr ⟨⟨c_5, c_15⟩, rfl, hB_49.isMs ⟨hwo.2.2.2.2.1, hwo.2.2.2.2.2.1⟩, (((hS_28.trans S_38).trans S_42).trans S_49)⟩
        · try simp only [b01_0, bz_0, Classical.not_not] at c_52
          refine rj_bipush (pc := 55) dX11_rename_55 (by decide +kernel) ?_
          refine r_aload_n (pc := 57) dX11_rename_57 rfl (by first | rfl | exact isRefV_rf _) ?_
          refine rm_getf (pc := 58) dX11_rename_58 fX11_71 (by assumption) rfl ?_
          refine rj_isub (pc := 61) dX11_rename_61 ?_
          refine r_ireturn (pc := 62) .int dX11_rename_62 rfl (by first | rfl | assumption) ?_
          first
          | (have z1 : (renR tape f6 f11 f12).1 = false := by rw [hw1, if_neg c_45]
             have z2 : (renR tape f6 f11 f12).2 = (nameF tape f6 (ps0 f11 f12)) := by rw [hw2, if_neg c_45]
             have z3 : renF m tape t.toNat f6 f11 f12 = (-100 - (nameF tape f6 (ps0 f11 f12)).2.1, m) := by unfold renF; rw [if_neg (by rw [z1]; decide), z2]
             rw [z3]
             exact Or.inr ⟨⟨c_5, c_15⟩, rfl, hB_42.isMs ⟨hqn.2.2.2.2.1, hqn.2.2.2.2.2.1⟩, ((hS_28.trans S_38).trans S_42)⟩)
          | (have z1 : (renR tape f6 f11 f12).1 = false := by rw [hw1, if_pos c_45]; simpa using c_52
             have z2 : (renR tape f6 f11 f12).2 = (wholeR f6 (nameF tape f6 (ps0 f11 f12))).2 := by rw [hw2, if_pos c_45]
             have z3 : renF m tape t.toNat f6 f11 f12 = (-100 - (wholeR f6 (nameF tape f6 (ps0 f11 f12))).2.2.1, m) := by unfold renF; rw [if_neg (by rw [z1]; decide), z2]
             rw [z3]
             exact Or.inr ⟨⟨c_5, c_15⟩, rfl, hB_49.isMs ⟨hwo.2.2.2.2.1, hwo.2.2.2.2.2.1⟩, (((hS_28.trans S_38).trans S_42).trans S_49)⟩)
    · try simp only [b01_0, bz_0, Classical.not_not] at c_15
      refine rj_bipush (pc := 18) dX11_rename_18 (by decide +kernel) ?_
      refine r_ireturn (pc := 20) .int dX11_rename_20 rfl (by first | rfl | assumption) ?_
      exact Or.inl ⟨fun g => c_15 g.2, by rw [show closeN m t = -3 from if_pos c_5], rfl⟩
  · try simp only [b01_0, bz_0, Classical.not_not] at c_5
    refine rj_iconst (pc := 8) dX11_rename_8 ?_
    refine r_ireturn (pc := 9) .int dX11_rename_9 rfl (by first | rfl | assumption) ?_
    exact Or.inl ⟨fun g => c_5 g.1, by rw [show closeN m t = -1 from if_neg c_5], rfl⟩
end mg_75

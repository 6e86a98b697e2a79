section mg_75
set_option maxHeartbeats 4000000 in
set_option maxRecDepth 100000 in
theorem m_task {G : mG} {l : Launch} {h : mH} {x s : Nat} {f4 f6 f8 f9 f10 f11 f12 f13 f14 f16 f18 : Int} {m kp was pool tape pln pap rwd rw : Nat → Int}(hB : isM h x (mFs x f4 f6 f8 f9 f10 f11 f12 f13 f14 f16 f18 s) m kp was pool tape pln pap rwd rw) (hok : mOk m) (hT : bytesOk tape) (h6 : 0 ≤ f6 ∧ f6 ≤ 120) (h11 : 0 ≤ f11 ∧ f11 ≤ 99999) (h8 : 0 ≤ m 8 ∧ m 8 + 130 ≤ 12342) {a b : Int} (ha : InR a) (hb : InR b) : RUNM G l 41 mX11_task [.ref x, .int (J a), .int (J b)] h (fun v h' => (¬ taskDo m a b ∧ v = some (.int (J (taskN m a b))) ∧ h' = h) ∨ (taskDo m a b ∧ v = some (.int (J (taskF m pool tape a b f6.toNat f11 f12).1)) ∧ isMs h' x f4 0 f14 f16 f18 (taskF m pool tape a b f6.toNat f11 f12).2.1 kp was (taskF m pool tape a b f6.toNat f11 f12).2.2 tape pln pap rwd rw ∧ Same (mBlk x) h h')) := by
  obtain ⟨hM, k0, k1, k2, k3, k4, k5, k7⟩ := id hok
  have hB0 := hB
  have hTx : txOk 4 tape pool tape f6 := ⟨Or.inl ⟨rfl, rfl, h6.2⟩, h6.1, hT⟩
  have hq0 : psOk f6 (ps0 f11 f12) := ps0_ok h6.1 h11
  have hTa : ∀ q, InR (tape q) := fun q => by have := hT q; exact ⟨by omega, by omega⟩
  have ef : ((f6.toNat : Nat) : Int) = f6 := by omega
  have r0 := hM 0
  have r3 := hM 3
  have hqs := (stepsW_p (sr := tape) (w := 0) (it := true) _ hq0).1
  have hwo := wholeR_ok hqs
  have hw : taskR tape f6 f11 f12 = wR f6 (stepsW tape f6 0 true (ps0 f11 f12)) := rfl
  dsimp only [mFs] at hB
  refine RUNM.of (by decide +kernel) (Nat.le_of_ble_eq_true rfl) ?_
  refine r_aload_n (pc := 0) dX11_task_0 rfl (by first | rfl | exact isRefV_rf _) ?_
  refine r_iload_n (pc := 1) dX11_task_1 rfl ?_
  refine r_callV1 (pc := 2) dX11_task_2 qX11_isScope kX11_50 vX11_isScope (by exact isM.gx (by assumption)) rfl rfl (Nat.le_of_ble_eq_true rfl) ((m_isScope 0 hB0 ha ⟨by omega, by omega⟩).deeper (by omega)) (fun v_2 h_2 q_2 => ?_)
  obtain ⟨rfl, rfl⟩ := q_2
  refine rj_if_ne (pc := 5) (tgt := 10) dX11_task_5 (by decide) (by first | assumption | exact b01_r | exact bz_r | omega | (constructor <;> omega) | exact hM _ | exact hPo _ | exact hTa _ | exact hRo _) (fun c_5 => ?_) (fun c_5 => ?_)
  · try simp only [b01_0, bz_0, Classical.not_not] at c_5
    refine r_iload_n (pc := 10) dX11_task_10 rfl ?_
    refine rj_bipush (pc := 11) dX11_task_11 (by decide +kernel) ?_
    refine rj_bipush (pc := 13) dX11_task_13 (by decide +kernel) ?_
    refine r_callS3 (pc := 15) dX11_task_15 qX11_isIn kX11_46 sX11_isIn (Nat.le_of_ble_eq_true rfl) ((m_isIn 0 hb (by decide) (by decide)).deeper (by omega)) (fun v_15 h_15 q_15 => ?_)
    obtain ⟨rfl, rfl⟩ := q_15
    refine rj_if_ne (pc := 18) (tgt := 24) dX11_task_18 (by decide) (by first | assumption | exact b01_r | exact bz_r | omega | (constructor <;> omega) | exact hM _ | exact hPo _ | exact hTa _ | exact hRo _) (fun c_18 => ?_) (fun c_18 => ?_)
    · try simp only [b01_0, bz_0, Classical.not_not] at c_18
      refine r_aload_n (pc := 24) dX11_task_24 rfl (by first | rfl | exact isRefV_rf _) ?_
      refine r_iload_n (pc := 25) dX11_task_25 rfl ?_
      refine r_callV1 (pc := 26) dX11_task_26 qX11_isOpen kX11_146 vX11_isOpen (by exact isM.gx (by assumption)) rfl rfl (Nat.le_of_ble_eq_true rfl) ((m_isOpen 0 hB0 hM k0 ha).deeper (by omega)) (fun v_26 h_26 q_26 => ?_)
      obtain ⟨rfl, rfl⟩ := q_26
      refine rj_if_ne (pc := 29) (tgt := 35) dX11_task_29 (by decide) (by first | assumption | exact b01_r | exact bz_r | omega | (constructor <;> omega) | exact hM _ | exact hPo _ | exact hTa _ | exact hRo _) (fun c_29 => ?_) (fun c_29 => ?_)
      · try simp only [b01_0, bz_0, Classical.not_not] at c_29
        refine r_aload_n (pc := 35) dX11_task_35 rfl (by first | rfl | exact isRefV_rf _) ?_
        refine rm_getf (pc := 36) dX11_task_36 fX11_11 (by assumption) rfl ?_
        refine rj_iconst (pc := 39) dX11_task_39 ?_
        refine rj_iald (pc := 40) (j := 3) dX11_task_40 (by first | exact isM.g0 (by assumption) | exact isM.g3 (by assumption) | exact isM.g4 (by assumption) | exact isM.g8 (by assumption) | exact isM.g7 (by assumption) | exact isM.g6 (by assumption) | exact isM.g5 (by assumption) | exact isM.g1 (by assumption) | exact isM.g2 (by assumption)) (by first | assumption | exact b01_r | exact bz_r | omega | (constructor <;> omega) | exact hM _ | exact hPo _ | exact hTa _ | exact hRo _) (by first | assumption | exact b01_r | exact bz_r | omega | (constructor <;> omega) | exact hM _ | exact hPo _ | exact hTa _ | exact hRo _) (by first | assumption | exact b01_r | exact bz_r | omega | (constructor <;> omega) | exact hM _ | exact hPo _ | exact hTa _ | exact hRo _) (by omega) ?_
        refine rj_bipush (pc := 41) dX11_task_41 (by decide +kernel) ?_
        refine rj_icmp_eq (pc := 43) (tgt := 57) dX11_task_43 (by decide) (by first | assumption | exact b01_r | exact bz_r | omega | (constructor <;> omega) | exact hM _ | exact hPo _ | exact hTa _ | exact hRo _) (by first | assumption | exact b01_r | exact bz_r | omega | (constructor <;> omega) | exact hM _ | exact hPo _ | exact hTa _ | exact hRo _) (fun c_43 => ?_) (fun c_43 => ?_)
        · refine rj_bipush (pc := 57) dX11_task_57 (by decide +kernel) ?_
          refine r_ireturn (pc := 59) .int dX11_task_59 rfl (by first | rfl | assumption) ?_
          exact Or.inl ⟨fun g => by first | exact g.2.2.2.1 c_43 | exact g.2.2.2.2 c_54, by rw [show taskN m a b = -4 by unfold taskN; rw [if_pos c_5, if_pos c_18, if_pos c_29]], rfl⟩
        · refine r_aload_n (pc := 46) dX11_task_46 rfl (by first | rfl | exact isRefV_rf _) ?_
          refine rm_getf (pc := 47) dX11_task_47 fX11_11 (by assumption) rfl ?_
          refine rj_iconst (pc := 50) dX11_task_50 ?_
          refine rj_iald (pc := 51) (j := 0) dX11_task_51 (by first | exact isM.g0 (by assumption) | exact isM.g3 (by assumption) | exact isM.g4 (by assumption) | exact isM.g8 (by assumption) | exact isM.g7 (by assumption) | exact isM.g6 (by assumption) | exact isM.g5 (by assumption) | exact isM.g1 (by assumption) | exact isM.g2 (by assumption)) (by first | assumption | exact b01_r | exact bz_r | omega | (constructor <;> omega) | exact hM _ | exact hPo _ | exact hTa _ | exact hRo _) (by first | assumption | exact b01_r | exact bz_r | omega | (constructor <;> omega) | exact hM _ | exact hPo _ | exact hTa _ | exact hRo _) (by first | assumption | exact b01_r | exact bz_r | omega | (constructor <;> omega) | exact hM _ | exact hPo _ | exact hTa _ | exact hRo _) (by omega) ?_
          refine rj_bipush (pc := 52) dX11_task_52 (by decide +kernel) ?_
          refine rj_icmp_ne (pc := 54) (tgt := 60) dX11_task_54 (by decide) (by first | assumption | exact b01_r | exact bz_r | omega | (constructor <;> omega) | exact hM _ | exact hPo _ | exact hTa _ | exact hRo _) (by first | assumption | exact b01_r | exact bz_r | omega | (constructor <;> omega) | exact hM _ | exact hPo _ | exact hTa _ | exact hRo _) (fun c_54 => ?_) (fun c_54 => ?_)
          · refine r_aload_n (pc := 60) dX11_task_60 rfl (by first | rfl | exact isRefV_rf _) ?_
            refine rm_getf (pc := 61) dX11_task_61 fX11_61 (by assumption) rfl ?_
            refine r_istore_n (pc := 64) dX11_task_64 (Nat.le_of_ble_eq_true rfl) ?_
            dsimp only [lsSt, List.set, mLs, mEnt]
            refine r_aload_n (pc := 65) dX11_task_65 rfl (by first | rfl | exact isRefV_rf _) ?_
            refine rj_iconst (pc := 66) dX11_task_66 ?_
            refine rm_putf (pc := 67) dX11_task_67 fX11_61 (by assumption) rfl rfl (Nat.le_of_ble_eq_true rfl) (fun h_67 hB_67 hS_67 => ?_)
            dsimp only [List.set, mFs] at hB_67
            refine r_aload_n (pc := 70) dX11_task_70 rfl (by first | rfl | exact isRefV_rf _) ?_
            refine r_aload_n (pc := 71) dX11_task_71 rfl (by first | rfl | exact isRefV_rf _) ?_
            refine rm_getf (pc := 72) dX11_task_72 fX11_24 (by assumption) rfl ?_
            refine rj_iconst (pc := 75) dX11_task_75 ?_
            refine r_iload_n (pc := 76) dX11_task_76 rfl ?_
            refine r_callV3 (pc := 77) dX11_task_77 qX11_begins kX11_115 vX11_begins (by exact isM.gx (by assumption)) rfl rfl (Nat.le_of_ble_eq_true rfl) ((m_begins 0 (show isM h_67 x (mFs x f4 0 f8 f9 f10 f11 f12 f13 f14 f16 f18 s) m kp was pool tape pln pap rwd rw from hB_67)).deeper (by omega)) (fun v_77 h_77 q_77 => ?_)
            obtain ⟨rfl, hB_77, S_77⟩ := q_77
            have hQ_77 : isM h_77 x (mFs x f4 0 (ps0 f11 f12).1 f6 (ps0 f11 f12).2.1 (ps0 f11 f12).2.2.1 (ps0 f11 f12).2.2.2.1 (ps0 f11 f12).2.2.2.2 f14 f16 f18 4) m kp was pool tape pln pap rwd rw := hB_77
            refine r_aload_n (pc := 80) dX11_task_80 rfl (by first | rfl | exact isRefV_rf _) ?_
            refine rj_iconst (pc := 81) dX11_task_81 ?_
            refine rj_iconst (pc := 82) dX11_task_82 ?_
            refine r_callV2 (pc := 83) dX11_task_83 qX11_isStepsRead kX11_92 vX11_isStepsRead (by exact isM.gx (by assumption)) rfl rfl (Nat.le_of_ble_eq_true rfl) (by have y := m_stepsW (G := G) (l := l) (w := 0) (it := true) (q := ps0 f11 f12) hQ_77 hTx hq0 (by decide) (by decide); rw [show bz true = 1 from rfl] at y; exact y.deeper (by omega)) (fun v_83 h_83 q_83 => ?_)
            obtain ⟨rfl, hB_83, S_83⟩ := q_83
            refine rj_if_eq (pc := 86) (tgt := 96) dX11_task_86 (by decide) (by first | assumption | exact b01_r | exact bz_r | omega | (constructor <;> omega) | exact hM _ | exact hPo _ | exact hTa _ | exact hRo _) (fun c_86 => ?_) (fun c_86 => ?_)
            · try simp only [b01_0, bz_0, Classical.not_not] at c_86
              refine rj_bipush (pc := 96) dX11_task_96 (by decide +kernel) ?_
              refine r_aload_n (pc := 98) dX11_task_98 rfl (by first | rfl | exact isRefV_rf _) ?_
              refine rm_getf (pc := 99) dX11_task_99 fX11_71 (by assumption) rfl ?_
              refine rj_isub (pc := 102) dX11_task_102 ?_
              refine r_ireturn (pc := 103) .int dX11_task_103 rfl (by first | rfl | assumption) ?_
              first
              | (have z0 : (stepsW tape f6 0 true (ps0 f11 f12)).1 = false := by simpa using c_86
                 have z1 : taskR tape (f6.toNat : Int) f11 f12 = (stepsW tape f6 0 true (ps0 f11 f12)) := by rw [ef, hw]; unfold wR; rw [if_neg (by rw [z0]; decide)]
                 have z3 : (taskF m pool tape a b f6.toNat f11 f12) = (-100 - (stepsW tape f6 0 true (ps0 f11 f12)).2.2.1, m, pool) := by unfold taskF; rw [z1, if_neg (by rw [z0]; decide)]
                 rw [z3]
                 exact Or.inr ⟨⟨c_5, c_18, c_29, c_43, c_54⟩, rfl, hB_83.isMs ⟨hqs.2.2.2.2.1, hqs.2.2.2.2.2.1⟩, (hS_67.trans S_77).trans S_83⟩)
              | (have z0 : (stepsW tape f6 0 true (ps0 f11 f12)).1 = true := by simpa using c_86
                 have z1 : taskR tape (f6.toNat : Int) f11 f12 = wholeR f6 (stepsW tape f6 0 true (ps0 f11 f12)).2 := by rw [ef, hw]; unfold wR; rw [if_pos z0]
                 have z2 : (wholeR f6 (stepsW tape f6 0 true (ps0 f11 f12)).2).1 = false := by simpa using c_93
                 have z3 : (taskF m pool tape a b f6.toNat f11 f12) = (-100 - (wholeR f6 (stepsW tape f6 0 true (ps0 f11 f12)).2).2.2.1, m, pool) := by unfold taskF; rw [z1, if_neg (by rw [z2]; decide)]
                 rw [z3]
                 exact Or.inr ⟨⟨c_5, c_18, c_29, c_43, c_54⟩, rfl, hB_90.isMs ⟨hwo.2.2.2.2.1, hwo.2.2.2.2.2.1⟩, ((hS_67.trans S_77).trans S_83).trans S_90⟩)
            · try simp only [b01_0, bz_0, Classical.not_not] at c_86
              refine r_aload_n (pc := 89) dX11_task_89 rfl (by first | rfl | exact isRefV_rf _) ?_
              refine r_callV0 (pc := 90) dX11_task_90 qX11_isWhole kX11_217 vX11_isWhole (by exact isM.gx (by assumption)) rfl rfl (Nat.le_of_ble_eq_true rfl) ((m_isWhole 0 hB_83 hTx hqs).deeper (by omega)) (fun v_90 h_90 q_90 => ?_)
              obtain ⟨rfl, hB_90, S_90⟩ := q_90
              refine rj_if_ne (pc := 93) (tgt := 104) dX11_task_93 (by decide) (by first | assumption | exact b01_r | exact bz_r | omega | (constructor <;> omega) | exact hM _ | exact hPo _ | exact hTa _ | exact hRo _) (fun c_93 => ?_) (fun c_93 => ?_)
              · try simp only [b01_0, bz_0, Classical.not_not] at c_93
                refine r_aload_n (pc := 104) dX11_task_104 rfl (by first | rfl | exact isRefV_rf _) ?_
                refine rm_getf (pc := 105) dX11_task_105 fX11_11 (by assumption) rfl ?_
                refine rj_iconst (pc := 108) dX11_task_108 ?_
                refine rj_iald (pc := 109) (j := 3) dX11_task_109 (by first | exact isM.g0 (by assumption) | exact isM.g3 (by assumption) | exact isM.g4 (by assumption) | exact isM.g8 (by assumption) | exact isM.g7 (by assumption) | exact isM.g6 (by assumption) | exact isM.g5 (by assumption) | exact isM.g1 (by assumption) | exact isM.g2 (by assumption)) (by first | assumption | exact b01_r | exact bz_r | omega | (constructor <;> omega) | exact hM _ | exact hPo _ | exact hTa _ | exact hRo _) (by first | assumption | exact b01_r | exact bz_r | omega | (constructor <;> omega) | exact hM _ | exact hPo _ | exact hTa _ | exact hRo _) (by first | assumption | exact b01_r | exact bz_r | omega | (constructor <;> omega) | exact hM _ | exact hPo _ | exact hTa _ | exact hRo _) (by omega) ?_
                refine r_istore (pc := 110) dX11_task_110 (Nat.le_of_ble_eq_true rfl) ?_
                dsimp only [lsSt, List.set, mLs, mEnt]
                refine r_aload_n (pc := 112) dX11_task_112 rfl (by first | rfl | exact isRefV_rf _) ?_
                refine rm_getf (pc := 113) dX11_task_113 fX11_11 (by assumption) rfl ?_
                refine rj_iconst (pc := 116) dX11_task_116 ?_
                refine r_dup2 (pc := 117) dX11_task_117 rfl rfl ?_
                refine rj_iald (pc := 118) (j := 3) dX11_task_118 (by first | exact isM.g0 (by assumption) | exact isM.g3 (by assumption) | exact isM.g4 (by assumption) | exact isM.g8 (by assumption) | exact isM.g7 (by assumption) | exact isM.g6 (by assumption) | exact isM.g5 (by assumption) | exact isM.g1 (by assumption) | exact isM.g2 (by assumption)) (by first | assumption | exact b01_r | exact bz_r | omega | (constructor <;> omega) | exact hM _ | exact hPo _ | exact hTa _ | exact hRo _) (by first | assumption | exact b01_r | exact bz_r | omega | (constructor <;> omega) | exact hM _ | exact hPo _ | exact hTa _ | exact hRo _) (by first | assumption | exact b01_r | exact bz_r | omega | (constructor <;> omega) | exact hM _ | exact hPo _ | exact hTa _ | exact hRo _) (by omega) ?_
                refine rj_iconst (pc := 119) dX11_task_119 ?_
                refine rj_iadd (pc := 120) dX11_task_120 ?_
                first | refine rm_iast0 (pc := 121) (j := 3) dX11_task_121 (by assumption) (by first | assumption | exact b01_r | exact bz_r | omega | (constructor <;> omega) | exact hM _ | exact hPo _ | exact hTa _ | exact hRo _) (by first | assumption | exact b01_r | exact bz_r | omega | (constructor <;> omega) | exact hM _ | exact hPo _ | exact hTa _ | exact hRo _) (by first | assumption | exact b01_r | exact bz_r | omega | (constructor <;> omega) | exact hM _ | exact hPo _ | exact hTa _ | exact hRo _) (by omega) (fun h_121 hB_121 hS_121 => ?_)
                refine rj_iconst (pc := 122) dX11_task_122 ?_
                refine r_istore (pc := 123) dX11_task_123 (Nat.le_of_ble_eq_true rfl) ?_
                dsimp only [lsSt, List.set, mLs, mEnt]
                have z0 : (stepsW tape f6 0 true (ps0 f11 f12)).1 = true := by simpa using c_86
                have z1 : taskR tape (f6.toNat : Int) f11 f12 = wholeR f6 (stepsW tape f6 0 true (ps0 f11 f12)).2 := by rw [ef, hw]; unfold wR; rw [if_pos z0]
                have z3 : (taskF m pool tape a b f6.toNat f11 f12) = (m 3, newTaskM m a b f6.toNat, pooledP pool tape (m 8).toNat 0 f6.toNat) := by unfold taskF; rw [z1, if_pos (by simpa using c_93)]
                rw [z3]
                have hBq : isM h_121 x (mFs x f4 0 (wholeR f6 (stepsW tape f6 0 true (ps0 f11 f12)).2).2.1 f6 (wholeR f6 (stepsW tape f6 0 true (ps0 f11 f12)).2).2.2.1 (wholeR f6 (stepsW tape f6 0 true (ps0 f11 f12)).2).2.2.2.1 (wholeR f6 (stepsW tape f6 0 true (ps0 f11 f12)).2).2.2.2.2.1 (wholeR f6 (stepsW tape f6 0 true (ps0 f11 f12)).2).2.2.2.2.2 f14 f16 f18 4) (zrF (updI m 3 (m 3 + 1)) (1608 + 72 * (m 3).toNat) 0) kp was pool tape pln pap rwd rw := by rw [zrF_0]; exact hB_121
                have e3 : (((m 3).toNat : Nat) : Int) = m 3 := by omega
                rw [show J (m 3) = J (((m 3).toNat : Nat) : Int) by rw [e3]]
                refine (L_zero (G := G) (l := l) (T := (m 3).toNat) (by omega) (mm := updI m 3 (m 3 + 1)) (f6' := f6) (hz := h_121) (fun h1 S1 B1 => ?_) 72 0 _ (by omega) Same.refl hBq).deeper (by omega)
                rw [e3, show J f6 = J ((f6.toNat : Nat) : Int) by rw [ef]]
                exact L_taskT B1 hTa (by omega) h8 ⟨by omega, by omega⟩ ⟨by omega, by omega⟩ (fun h2 B2 S2 => Or.inr ⟨⟨c_5, c_18, c_29, c_43, c_54⟩, rfl, B2.isMs ⟨hwo.2.2.2.2.1, hwo.2.2.2.2.2.1⟩, (((((hS_67.trans S_77).trans S_83).trans S_90).trans hS_121).trans S1).trans S2⟩)
              · try simp only [b01_0, bz_0, Classical.not_not] at c_93
                refine rj_bipush (pc := 96) dX11_task_96 (by decide +kernel) ?_
                refine r_aload_n (pc := 98) dX11_task_98 rfl (by first | rfl | exact isRefV_rf _) ?_
                refine rm_getf (pc := 99) dX11_task_99 fX11_71 (by assumption) rfl ?_
                refine rj_isub (pc := 102) dX11_task_102 ?_
                refine r_ireturn (pc := 103) .int dX11_task_103 rfl (by first | rfl | assumption) ?_
                first
                | (have z0 : (stepsW tape f6 0 true (ps0 f11 f12)).1 = false := by simpa using c_86
                   have z1 : taskR tape (f6.toNat : Int) f11 f12 = (stepsW tape f6 0 true (ps0 f11 f12)) := by rw [ef, hw]; unfold wR; rw [if_neg (by rw [z0]; decide)]
                   have z3 : (taskF m pool tape a b f6.toNat f11 f12) = (-100 - (stepsW tape f6 0 true (ps0 f11 f12)).2.2.1, m, pool) := by unfold taskF; rw [z1, if_neg (by rw [z0]; decide)]
                   rw [z3]
                   exact Or.inr ⟨⟨c_5, c_18, c_29, c_43, c_54⟩, rfl, hB_83.isMs ⟨hqs.2.2.2.2.1, hqs.2.2.2.2.2.1⟩, (hS_67.trans S_77).trans S_83⟩)
                | (have z0 : (stepsW tape f6 0 true (ps0 f11 f12)).1 = true := by simpa using c_86
                   have z1 : taskR tape (f6.toNat : Int) f11 f12 = wholeR f6 (stepsW tape f6 0 true (ps0 f11 f12)).2 := by rw [ef, hw]; unfold wR; rw [if_pos z0]
                   have z2 : (wholeR f6 (stepsW tape f6 0 true (ps0 f11 f12)).2).1 = false := by simpa using c_93
                   have z3 : (taskF m pool tape a b f6.toNat f11 f12) = (-100 - (wholeR f6 (stepsW tape f6 0 true (ps0 f11 f12)).2).2.2.1, m, pool) := by unfold taskF; rw [z1, if_neg (by rw [z2]; decide)]
                   rw [z3]
                   exact Or.inr ⟨⟨c_5, c_18, c_29, c_43, c_54⟩, rfl, hB_90.isMs ⟨hwo.2.2.2.2.1, hwo.2.2.2.2.2.1⟩, ((hS_67.trans S_77).trans S_83).trans S_90⟩)
          · refine rj_bipush (pc := 57) dX11_task_57 (by decide +kernel) ?_
            refine r_ireturn (pc := 59) .int dX11_task_59 rfl (by first | rfl | assumption) ?_
            exact Or.inl ⟨fun g => by first | exact g.2.2.2.1 c_43 | exact g.2.2.2.2 c_54, by rw [show taskN m a b = -4 by unfold taskN; rw [if_pos c_5, if_pos c_18, if_pos c_29]], rfl⟩
      · try simp only [b01_0, bz_0, Classical.not_not] at c_29
        refine rj_bipush (pc := 32) dX11_task_32 (by decide +kernel) ?_
        refine r_ireturn (pc := 34) .int dX11_task_34 rfl (by first | rfl | assumption) ?_
        exact Or.inl ⟨fun g => c_29 g.2.2.1, by rw [show taskN m a b = -3 by unfold taskN; rw [if_pos c_5, if_pos c_18, if_neg c_29]], rfl⟩
    · try simp only [b01_0, bz_0, Classical.not_not] at c_18
      refine rj_bipush (pc := 21) dX11_task_21 (by decide +kernel) ?_
      refine r_ireturn (pc := 23) .int dX11_task_23 rfl (by first | rfl | assumption) ?_
      exact Or.inl ⟨fun g => c_18 g.2.1, by rw [show taskN m a b = -2 by unfold taskN; rw [if_pos c_5, if_neg c_18]], rfl⟩
  · try simp only [b01_0, bz_0, Classical.not_not] at c_5
    refine rj_iconst (pc := 8) dX11_task_8 ?_
    refine r_ireturn (pc := 9) .int dX11_task_9 rfl (by first | rfl | assumption) ?_
    exact Or.inl ⟨fun g => c_5 g.1, by rw [show taskN m a b = -1 from if_neg c_5], rfl⟩
end mg_75

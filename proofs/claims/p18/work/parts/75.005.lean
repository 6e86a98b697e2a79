section mg_75
set_option maxHeartbeats 4000000 in
set_option maxRecDepth 100000 in
theorem m_take {G : mG} {l : Launch} {h : mH} {x s : Nat} {f4 f6 f8 f9 f10 f11 f12 f13 f14 f16 f18 : Int} {m kp was pool tape pln pap rwd rw : Nat → Int}(hB : isM h x (mFs x f4 f6 f8 f9 f10 f11 f12 f13 f14 f16 f18 s) m kp was pool tape pln pap rwd rw) (hok : mOk m) (hT : bytesOk tape) (h6 : 0 ≤ f6 ∧ f6 ≤ 120) (h11 : 0 ≤ f11 ∧ f11 ≤ 99999) (h8 : 0 ≤ m 8 ∧ m 8 + 130 ≤ 12342) {a : Int} (ha : InR a) : RUNM G l 41 mX11_take [.ref x, .int (J a)] h (fun v h' => (¬ openP m a ∧ v = some (.int (J (openN m a))) ∧ h' = h) ∨ (openP m a ∧ v = some (.int (J (takeF m pool tape a f6.toNat (takeE tape f6 f11 f12) (takeR tape f6 f11 f12)).1)) ∧ isMs h' x f4 0 f14 f16 f18 (takeF m pool tape a f6.toNat (takeE tape f6 f11 f12) (takeR tape f6 f11 f12)).2.1 kp was (takeF m pool tape a f6.toNat (takeE tape f6 f11 f12) (takeR tape f6 f11 f12)).2.2 tape pln pap rwd rw ∧ Same (mBlk x) h h')) := by
  obtain ⟨hM, k0, k1, k2, k3, k4, k5, k7⟩ := id hok
  have hB0 := hB
  have hTx : txOk 4 tape pool tape f6 := ⟨Or.inl ⟨rfl, rfl, h6.2⟩, h6.1, hT⟩
  have hq0 : psOk f6 (ps0 f11 f12) := ps0_ok h6.1 h11
  have hqn := name_ok (sr := tape) hq0
  obtain ⟨e1, e2, e3⟩ := nameF_e (tape := tape) (f12 := f12) h6.1 h11
  have ef : ((f6.toNat : Nat) : Int) = f6 := by omega
  dsimp only [mFs] at hB
  refine RUNM.of (by decide +kernel) (Nat.le_of_ble_eq_true rfl) ?_
  refine r_aload_n (pc := 0) dX11_take_0 rfl (by first | rfl | exact isRefV_rf _) ?_
  refine r_iload_n (pc := 1) dX11_take_1 rfl ?_
  refine r_callV1 (pc := 2) dX11_take_2 qX11_isScope kX11_50 vX11_isScope (by exact isM.gx (by assumption)) rfl rfl (Nat.le_of_ble_eq_true rfl) ((m_isScope 0 hB0 ha ⟨by omega, by omega⟩).deeper (by omega)) (fun v_2 h_2 q_2 => ?_)
  obtain ⟨rfl, rfl⟩ := q_2
  refine rj_if_ne (pc := 5) (tgt := 10) dX11_take_5 (by decide) (by first | assumption | exact b01_r | exact bz_r | omega | (constructor <;> omega) | exact hM _ | exact hPo _ | exact hTa _ | exact hRo _) (fun c_5 => ?_) (fun c_5 => ?_)
  · try simp only [b01_0, bz_0, Classical.not_not] at c_5
    refine r_aload_n (pc := 10) dX11_take_10 rfl (by first | rfl | exact isRefV_rf _) ?_
    refine r_iload_n (pc := 11) dX11_take_11 rfl ?_
    refine r_callV1 (pc := 12) dX11_take_12 qX11_isOpen kX11_146 vX11_isOpen (by exact isM.gx (by assumption)) rfl rfl (Nat.le_of_ble_eq_true rfl) ((m_isOpen 0 hB0 hM k0 ha).deeper (by omega)) (fun v_12 h_12 q_12 => ?_)
    obtain ⟨rfl, rfl⟩ := q_12
    refine rj_if_ne (pc := 15) (tgt := 21) dX11_take_15 (by decide) (by first | assumption | exact b01_r | exact bz_r | omega | (constructor <;> omega) | exact hM _ | exact hPo _ | exact hTa _ | exact hRo _) (fun c_15 => ?_) (fun c_15 => ?_)
    · try simp only [b01_0, bz_0, Classical.not_not] at c_15
      refine r_aload_n (pc := 21) dX11_take_21 rfl (by first | rfl | exact isRefV_rf _) ?_
      refine rm_getf (pc := 22) dX11_take_22 fX11_61 (by assumption) rfl ?_
      refine r_istore_n (pc := 25) dX11_take_25 (Nat.le_of_ble_eq_true rfl) ?_
      dsimp only [lsSt, List.set, mLs, mEnt]
      refine r_aload_n (pc := 26) dX11_take_26 rfl (by first | rfl | exact isRefV_rf _) ?_
      refine rj_iconst (pc := 27) dX11_take_27 ?_
      refine rm_putf (pc := 28) dX11_take_28 fX11_61 (by assumption) rfl rfl (Nat.le_of_ble_eq_true rfl) (fun h_28 hB_28 hS_28 => ?_)
      dsimp only [List.set, mFs] at hB_28
      refine r_aload_n (pc := 31) dX11_take_31 rfl (by first | rfl | exact isRefV_rf _) ?_
      refine r_aload_n (pc := 32) dX11_take_32 rfl (by first | rfl | exact isRefV_rf _) ?_
      refine rm_getf (pc := 33) dX11_take_33 fX11_24 (by assumption) rfl ?_
      refine rj_iconst (pc := 36) dX11_take_36 ?_
      refine r_iload_n (pc := 37) dX11_take_37 rfl ?_
      refine r_callV3 (pc := 38) dX11_take_38 qX11_begins kX11_115 vX11_begins (by exact isM.gx (by assumption)) rfl rfl (Nat.le_of_ble_eq_true rfl) ((m_begins 0 (show isM h_28 x (mFs x f4 0 f8 f9 f10 f11 f12 f13 f14 f16 f18 s) m kp was pool tape pln pap rwd rw from hB_28)).deeper (by omega)) (fun v_38 h_38 q_38 => ?_)
      obtain ⟨rfl, hB_38, S_38⟩ := q_38
      have hQ_38 : isM h_38 x (mFs x f4 0 (ps0 f11 f12).1 f6 (ps0 f11 f12).2.1 (ps0 f11 f12).2.2.1 (ps0 f11 f12).2.2.2.1 (ps0 f11 f12).2.2.2.2 f14 f16 f18 4) m kp was pool tape pln pap rwd rw := hB_38
      refine r_aload_n (pc := 41) dX11_take_41 rfl (by first | rfl | exact isRefV_rf _) ?_
      refine r_callV0 (pc := 42) dX11_take_42 qX11_isName kX11_88 vX11_isName (by exact isM.gx (by assumption)) rfl rfl (Nat.le_of_ble_eq_true rfl) ((m_isName 0 hQ_38 hTx hq0).deeper (by omega)) (fun v_42 h_42 q_42 => ?_)
      obtain ⟨rfl, hB_42, S_42⟩ := q_42
      refine r_istore_n (pc := 45) dX11_take_45 (Nat.le_of_ble_eq_true rfl) ?_
      dsimp only [lsSt, List.set, mLs, mEnt]
      refine r_aload_n (pc := 46) dX11_take_46 rfl (by first | rfl | exact isRefV_rf _) ?_
      refine rm_getf (pc := 47) dX11_take_47 fX11_65 (by assumption) rfl ?_
      refine r_istore (pc := 50) dX11_take_50 (Nat.le_of_ble_eq_true rfl) ?_
      dsimp only [lsSt, List.set, mLs, mEnt]
      refine r_iload_n (pc := 52) dX11_take_52 rfl ?_
      refine rj_if_eq (pc := 53) (tgt := 82) dX11_take_53 (by decide) (by first | assumption | exact b01_r | exact bz_r | omega | (constructor <;> omega) | exact hM _ | exact hPo _ | exact hTa _ | exact hRo _) (fun c_53 => ?_) (fun c_53 => ?_)
      · try simp only [b01_0, bz_0, Classical.not_not] at c_53
        have zr : takeR tape f6 f11 f12 = (false, (nameF tape f6 (ps0 f11 f12))) := by unfold takeR; rw [if_neg (fun g => c_53 g.1), decide_eq_false c_53]
        rw [show b01 (nameB tape f6 (ps0 f11 f12)) = bz false from (if_neg c_53).trans rfl]
        have y := L_takeT (G := G) (l := l) (len := f6.toNat) (E := takeE tape f6 f11 f12) (r := takeR tape f6 f11 f12) (a := a) (by rw [zr, ef]; exact hB_42) hok hT (by omega) (by rw [zr, ef]; exact hqn) h8 (by omega) e2
        rw [ef, e1, zr] at y
        rw [zr]
        exact (y.deeper (by omega)).mono (fun v h' q => Or.inr ⟨c_15, q.1, q.2.1, ((hS_28.trans S_38).trans S_42).trans q.2.2⟩)
      · try simp only [b01_0, bz_0, Classical.not_not] at c_53
        refine r_aload_n (pc := 56) dX11_take_56 rfl (by first | rfl | exact isRefV_rf _) ?_
        have rh := here_r hTx (nameF tape f6 (ps0 f11 f12)).1
        refine r_callV0 (pc := 57) dX11_take_57 qX11_here kX11_74 vX11_here (by exact isM.gx (by assumption)) rfl rfl (Nat.le_of_ble_eq_true rfl) ((m_here 0 hB_42 hTx hqn).deeper (by omega)) (fun v_57 h_57 q_57 => ?_)
        obtain ⟨rfl, rfl⟩ := q_57
        refine rj_bipush (pc := 60) dX11_take_60 (by decide +kernel) ?_
        refine rj_icmp_ne (pc := 62) (tgt := 82) dX11_take_62 (by decide) (by first | assumption | exact b01_r | exact bz_r | omega | (constructor <;> omega) | exact hM _ | exact hPo _ | exact hTa _ | exact hRo _) (by first | assumption | exact b01_r | exact bz_r | omega | (constructor <;> omega) | exact hM _ | exact hPo _ | exact hTa _ | exact hRo _) (fun c_62 => ?_) (fun c_62 => ?_)
        · have zr : takeR tape f6 f11 f12 = (true, (nameF tape f6 (ps0 f11 f12))) := by unfold takeR; rw [if_neg (fun g => c_62 g.2), decide_eq_true c_53]
          rw [show b01 (nameB tape f6 (ps0 f11 f12)) = bz true from (if_pos c_53).trans rfl]
          have y := L_takeT (G := G) (l := l) (len := f6.toNat) (E := takeE tape f6 f11 f12) (r := takeR tape f6 f11 f12) (a := a) (by rw [zr, ef]; exact hB_42) hok hT (by omega) (by rw [zr, ef]; exact hqn) h8 (by omega) e2
          rw [ef, e1, zr] at y
          rw [zr]
          exact (y.deeper (by omega)).mono (fun v h' q => Or.inr ⟨c_15, q.1, q.2.1, ((hS_28.trans S_38).trans S_42).trans q.2.2⟩)
        · refine r_aload_n (pc := 65) dX11_take_65 rfl (by first | rfl | exact isRefV_rf _) ?_
          refine r_dup (pc := 66) dX11_take_66 (by first | rfl | (cases ‹Option Nat› <;> rfl)) ?_
          refine rm_getf (pc := 67) dX11_take_67 fX11_65 (by assumption) rfl ?_
          refine rj_iconst (pc := 70) dX11_take_70 ?_
          refine rj_iadd (pc := 71) dX11_take_71 ?_
          refine rm_putf (pc := 72) dX11_take_72 fX11_65 (by assumption) rfl rfl (Nat.le_of_ble_eq_true rfl) (fun h_72 hB_72 hS_72 => ?_)
          dsimp only [List.set, mFs] at hB_72
          refine r_aload_n (pc := 75) dX11_take_75 rfl (by first | rfl | exact isRefV_rf _) ?_
          refine rj_iconst (pc := 76) dX11_take_76 ?_
          refine rj_iconst (pc := 77) dX11_take_77 ?_
          refine r_callV2 (pc := 78) dX11_take_78 qX11_isStepsRead kX11_92 vX11_isStepsRead (by exact isM.gx (by assumption)) rfl rfl (Nat.le_of_ble_eq_true rfl) (by have y := m_stepsW (G := G) (l := l) (w := 1) (it := false) (q := advF (nameF tape f6 (ps0 f11 f12))) (show isM h_72 x (mFs x f4 0 (advF (nameF tape f6 (ps0 f11 f12))).1 f6 (advF (nameF tape f6 (ps0 f11 f12))).2.1 (advF (nameF tape f6 (ps0 f11 f12))).2.2.1 (advF (nameF tape f6 (ps0 f11 f12))).2.2.2.1 (advF (nameF tape f6 (ps0 f11 f12))).2.2.2.2 f14 f16 f18 4) m kp was pool tape pln pap rwd rw from hB_72) hTx (adv_ok hqn (here_lt (sr := tape) (by omega))) (by decide) (by decide); rw [show bz false = 0 from rfl] at y; exact y.deeper (by omega)) (fun v_78 h_78 q_78 => ?_)
          obtain ⟨rfl, hB_78, S_78⟩ := q_78
          refine r_istore_n (pc := 81) dX11_take_81 (Nat.le_of_ble_eq_true rfl) ?_
          dsimp only [lsSt, List.set, mLs, mEnt]
          have zr : takeR tape f6 f11 f12 = stepsW tape f6 1 false (advF (nameF tape f6 (ps0 f11 f12))) := by unfold takeR; rw [if_pos ⟨c_53, c_62⟩]
          have y := L_takeT (G := G) (l := l) (len := f6.toNat) (E := takeE tape f6 f11 f12) (r := takeR tape f6 f11 f12) (a := a) (by rw [zr, ef]; exact hB_78) hok hT (by omega) (by rw [zr, ef]; exact (stepsW_p _ (adv_ok hqn (here_lt (sr := tape) (by omega)))).1) h8 (by omega) e2
          rw [ef, e1, zr] at y
          rw [zr]
          exact (y.deeper (by omega)).mono (fun v h' q => Or.inr ⟨c_15, q.1, q.2.1, ((((hS_28.trans S_38).trans S_42).trans hS_72).trans S_78).trans q.2.2⟩)
    · try simp only [b01_0, bz_0, Classical.not_not] at c_15
      refine rj_bipush (pc := 18) dX11_take_18 (by decide +kernel) ?_
      refine r_ireturn (pc := 20) .int dX11_take_20 rfl (by first | rfl | assumption) ?_
      exact Or.inl ⟨c_15, by rw [show openN m a = -3 from if_pos c_5], rfl⟩
  · try simp only [b01_0, bz_0, Classical.not_not] at c_5
    refine rj_iconst (pc := 8) dX11_take_8 ?_
    refine r_ireturn (pc := 9) .int dX11_take_9 rfl (by first | rfl | assumption) ?_
    exact Or.inl ⟨fun g => c_5 ⟨g.1, g.2.1⟩, by rw [show openN m a = -1 from if_neg c_5], rfl⟩
end mg_75

section mg_22
set_option maxHeartbeats 4000000 in
set_option maxRecDepth 100000 in
theorem L_entS {G : mG} {l : Launch} (d : Nat) {h : mH} {x s : Nat} {f4 f6 f8 f9 f10 f11 f12 f13 f14 f16 f18 : Int} {m kp was pool tape pln pap rwd rw : Nat → Int}(hB : isM h x (mFs x f4 f6 f8 f9 f10 f11 f12 f13 f14 f16 f18 s) m kp was pool tape pln pap rwd rw) (hM : ∀ q, InR (m q)) {N C : Nat} (hN : m 1 = (N : Int)) (hcap : N ≤ 90) (hC : m 0 = (C : Int)) (hC1 : 1 ≤ C) (hC2 : C ≤ 60) {a : Int} (ha : InR a) : ∀ k t : Nat, t + k = C → 1 ≤ t → RUN G l (d + 2) mX11_entries 53 [some (.ref x), some (.int (J a)), some (.int (J (cnt (entTB m a) N + cnt (entSC m a) t))), some (.int (J (t : Int)))] [] h (fun v h' => v = some (.int (J (entsN m a N C))) ∧ h' = h) := by
  dsimp only [mFs] at hB
  have rN := hM 1
  have r0 := hM 0
  intro k
  induction k with
  | zero =>
    intro t ht ht1
    refine r_iload_n (pc := 53) dX11_entries_53 rfl ?_
    refine r_aload_n (pc := 54) dX11_entries_54 rfl (by first | rfl | exact isRefV_rf _) ?_
    refine rm_getf (pc := 55) dX11_entries_55 fX11_11 (by assumption) rfl ?_
    refine rj_iconst (pc := 58) dX11_entries_58 ?_
    refine rj_iald (pc := 59) (j := 0) dX11_entries_59 (by first | exact isM.g0 (by assumption) | exact isM.g3 (by assumption) | exact isM.g4 (by assumption) | exact isM.g8 (by assumption) | exact isM.g7 (by assumption) | exact isM.g6 (by assumption) | exact isM.g5 (by assumption) | exact isM.g1 (by assumption) | exact isM.g2 (by assumption)) (by first | assumption | exact b01_r | exact bz_r | omega | (constructor <;> omega) | exact hM _ | exact hPo _ | exact hTa _ | exact hRo _) (by first | assumption | exact b01_r | exact bz_r | omega | (constructor <;> omega) | exact hM _ | exact hPo _ | exact hTa _ | exact hRo _) (by first | assumption | exact b01_r | exact bz_r | omega | (constructor <;> omega) | exact hM _ | exact hPo _ | exact hTa _ | exact hRo _) rfl ?_
    refine rj_icmp_ge (pc := 60) (tgt := 105) dX11_entries_60 (by decide) (by first | assumption | exact b01_r | exact bz_r | omega | (constructor <;> omega) | exact hM _ | exact hPo _ | exact hTa _ | exact hRo _) (by first | assumption | exact b01_r | exact bz_r | omega | (constructor <;> omega) | exact hM _ | exact hPo _ | exact hTa _ | exact hRo _) (fun c_60 => ?_) (fun c_60 => ?_)
    · refine r_iload_n (pc := 105) dX11_entries_105 rfl ?_
      refine r_ireturn (pc := 106) .int dX11_entries_106 rfl (by first | rfl | assumption) ?_
      have e : t = C := by omega
      subst e
      exact ⟨rfl, rfl⟩
    · refine r_iload_n (pc := 63) dX11_entries_63 rfl ?_
      refine r_aload_n (pc := 64) dX11_entries_64 rfl (by first | rfl | exact isRefV_rf _) ?_
      refine rm_getf (pc := 65) dX11_entries_65 fX11_11 (by assumption) rfl ?_
      refine r_iload_n (pc := 68) dX11_entries_68 rfl ?_
      refine rj_iconst (pc := 69) dX11_entries_69 ?_
      refine r_callS2 (pc := 70) dX11_entries_70 qX11_ofScope kX11_42 sX11_ofScope (Nat.le_of_ble_eq_true rfl) (m_ofScope (d + 1)) (fun v_70 h_70 q_70 => ?_)
      obtain ⟨rfl, rfl⟩ := q_70
      refine rj_iald (pc := 73) dX11_entries_73 (by first | exact isM.g0 (by assumption) | exact isM.g3 (by assumption) | exact isM.g4 (by assumption) | exact isM.g8 (by assumption) | exact isM.g7 (by assumption) | exact isM.g6 (by assumption) | exact isM.g5 (by assumption) | exact isM.g1 (by assumption) | exact isM.g2 (by assumption)) (by first | assumption | exact b01_r | exact bz_r | omega | (constructor <;> omega) | exact hM _ | exact hPo _ | exact hTa _ | exact hRo _) (by first | assumption | exact b01_r | exact bz_r | omega | (constructor <;> omega) | exact hM _ | exact hPo _ | exact hTa _ | exact hRo _) (by first | assumption | exact b01_r | exact bz_r | omega | (constructor <;> omega) | exact hM _ | exact hPo _ | exact hTa _ | exact hRo _) rfl ?_
      refine rj_iconst (pc := 74) dX11_entries_74 ?_
      refine rj_icmp_eq (pc := 75) (tgt := 96) dX11_entries_75 (by decide) (by first | assumption | exact b01_r | exact bz_r | omega | (constructor <;> omega) | exact hM _ | exact hPo _ | exact hTa _ | exact hRo _) (by first | assumption | exact b01_r | exact bz_r | omega | (constructor <;> omega) | exact hM _ | exact hPo _ | exact hTa _ | exact hRo _) (fun c_75 => ?_) (fun c_75 => ?_)
      · refine rj_iconst (pc := 96) dX11_entries_96 ?_
        refine rj_iadd (pc := 97) dX11_entries_97 ?_
        refine r_istore_n (pc := 98) dX11_entries_98 (Nat.le_of_ble_eq_true rfl) ?_
        dsimp only [lsSt, List.set, mLs, mEnt]
        refine rj_iinc (pc := 99) dX11_entries_99 (Nat.le_of_ble_eq_true rfl) rfl ?_
        dsimp only [lsSt, List.set, mLs, mEnt]
        refine r_goto (pc := 102) (tgt := 53) dX11_entries_102 (by decide) ?_
        exfalso; omega
      · refine r_aload_n (pc := 78) dX11_entries_78 rfl (by first | rfl | exact isRefV_rf _) ?_
        refine rm_getf (pc := 79) dX11_entries_79 fX11_11 (by assumption) rfl ?_
        refine r_iload_n (pc := 82) dX11_entries_82 rfl ?_
        refine rj_iconst (pc := 83) dX11_entries_83 ?_
        refine r_callS2 (pc := 84) dX11_entries_84 qX11_ofScope kX11_42 sX11_ofScope (Nat.le_of_ble_eq_true rfl) (m_ofScope (d + 1)) (fun v_84 h_84 q_84 => ?_)
        obtain ⟨rfl, rfl⟩ := q_84
        refine rj_iald (pc := 87) dX11_entries_87 (by first | exact isM.g0 (by assumption) | exact isM.g3 (by assumption) | exact isM.g4 (by assumption) | exact isM.g8 (by assumption) | exact isM.g7 (by assumption) | exact isM.g6 (by assumption) | exact isM.g5 (by assumption) | exact isM.g1 (by assumption) | exact isM.g2 (by assumption)) (by first | assumption | exact b01_r | exact bz_r | omega | (constructor <;> omega) | exact hM _ | exact hPo _ | exact hTa _ | exact hRo _) (by first | assumption | exact b01_r | exact bz_r | omega | (constructor <;> omega) | exact hM _ | exact hPo _ | exact hTa _ | exact hRo _) (by first | assumption | exact b01_r | exact bz_r | omega | (constructor <;> omega) | exact hM _ | exact hPo _ | exact hTa _ | exact hRo _) rfl ?_
        refine r_iload_n (pc := 88) dX11_entries_88 rfl ?_
        refine rj_icmp_ne (pc := 89) (tgt := 96) dX11_entries_89 (by decide) (by first | assumption | exact b01_r | exact bz_r | omega | (constructor <;> omega) | exact hM _ | exact hPo _ | exact hTa _ | exact hRo _) (by first | assumption | exact b01_r | exact bz_r | omega | (constructor <;> omega) | exact hM _ | exact hPo _ | exact hTa _ | exact hRo _) (fun c_89 => ?_) (fun c_89 => ?_)
        · refine rj_iconst (pc := 96) dX11_entries_96 ?_
          refine rj_iadd (pc := 97) dX11_entries_97 ?_
          refine r_istore_n (pc := 98) dX11_entries_98 (Nat.le_of_ble_eq_true rfl) ?_
          dsimp only [lsSt, List.set, mLs, mEnt]
          refine rj_iinc (pc := 99) dX11_entries_99 (Nat.le_of_ble_eq_true rfl) rfl ?_
          dsimp only [lsSt, List.set, mLs, mEnt]
          refine r_goto (pc := 102) (tgt := 53) dX11_entries_102 (by decide) ?_
          exfalso; omega
        · refine rj_iconst (pc := 92) dX11_entries_92 ?_
          refine r_goto (pc := 93) (tgt := 97) dX11_entries_93 (by decide) ?_
          refine rj_iadd (pc := 97) dX11_entries_97 ?_
          refine r_istore_n (pc := 98) dX11_entries_98 (Nat.le_of_ble_eq_true rfl) ?_
          dsimp only [lsSt, List.set, mLs, mEnt]
          refine rj_iinc (pc := 99) dX11_entries_99 (Nat.le_of_ble_eq_true rfl) rfl ?_
          dsimp only [lsSt, List.set, mLs, mEnt]
          refine r_goto (pc := 102) (tgt := 53) dX11_entries_102 (by decide) ?_
          exfalso; omega
  | succ k ih =>
    intro t ht ht1
    refine r_iload_n (pc := 53) dX11_entries_53 rfl ?_
    refine r_aload_n (pc := 54) dX11_entries_54 rfl (by first | rfl | exact isRefV_rf _) ?_
    refine rm_getf (pc := 55) dX11_entries_55 fX11_11 (by assumption) rfl ?_
    refine rj_iconst (pc := 58) dX11_entries_58 ?_
    refine rj_iald (pc := 59) (j := 0) dX11_entries_59 (by first | exact isM.g0 (by assumption) | exact isM.g3 (by assumption) | exact isM.g4 (by assumption) | exact isM.g8 (by assumption) | exact isM.g7 (by assumption) | exact isM.g6 (by assumption) | exact isM.g5 (by assumption) | exact isM.g1 (by assumption) | exact isM.g2 (by assumption)) (by first | assumption | exact b01_r | exact bz_r | omega | (constructor <;> omega) | exact hM _ | exact hPo _ | exact hTa _ | exact hRo _) (by first | assumption | exact b01_r | exact bz_r | omega | (constructor <;> omega) | exact hM _ | exact hPo _ | exact hTa _ | exact hRo _) (by first | assumption | exact b01_r | exact bz_r | omega | (constructor <;> omega) | exact hM _ | exact hPo _ | exact hTa _ | exact hRo _) rfl ?_
    refine rj_icmp_ge (pc := 60) (tgt := 105) dX11_entries_60 (by decide) (by first | assumption | exact b01_r | exact bz_r | omega | (constructor <;> omega) | exact hM _ | exact hPo _ | exact hTa _ | exact hRo _) (by first | assumption | exact b01_r | exact bz_r | omega | (constructor <;> omega) | exact hM _ | exact hPo _ | exact hTa _ | exact hRo _) (fun c_60 => ?_) (fun c_60 => ?_)
    · refine r_iload_n (pc := 105) dX11_entries_105 rfl ?_
      refine r_ireturn (pc := 106) .int dX11_entries_106 rfl (by first | rfl | assumption) ?_
      exfalso; omega
    · refine r_iload_n (pc := 63) dX11_entries_63 rfl ?_
      refine r_aload_n (pc := 64) dX11_entries_64 rfl (by first | rfl | exact isRefV_rf _) ?_
      refine rm_getf (pc := 65) dX11_entries_65 fX11_11 (by assumption) rfl ?_
      refine r_iload_n (pc := 68) dX11_entries_68 rfl ?_
      refine rj_iconst (pc := 69) dX11_entries_69 ?_
      refine r_callS2 (pc := 70) dX11_entries_70 qX11_ofScope kX11_42 sX11_ofScope (Nat.le_of_ble_eq_true rfl) (m_ofScope (d + 1)) (fun v_70 h_70 q_70 => ?_)
      obtain ⟨rfl, rfl⟩ := q_70
      refine rj_iald (pc := 73) dX11_entries_73 (by first | exact isM.g0 (by assumption) | exact isM.g3 (by assumption) | exact isM.g4 (by assumption) | exact isM.g8 (by assumption) | exact isM.g7 (by assumption) | exact isM.g6 (by assumption) | exact isM.g5 (by assumption) | exact isM.g1 (by assumption) | exact isM.g2 (by assumption)) (by first | assumption | exact b01_r | exact bz_r | omega | (constructor <;> omega) | exact hM _ | exact hPo _ | exact hTa _ | exact hRo _) (by first | assumption | exact b01_r | exact bz_r | omega | (constructor <;> omega) | exact hM _ | exact hPo _ | exact hTa _ | exact hRo _) (by first | assumption | exact b01_r | exact bz_r | omega | (constructor <;> omega) | exact hM _ | exact hPo _ | exact hTa _ | exact hRo _) rfl ?_
      refine rj_iconst (pc := 74) dX11_entries_74 ?_
      refine rj_icmp_eq (pc := 75) (tgt := 96) dX11_entries_75 (by decide) (by first | assumption | exact b01_r | exact bz_r | omega | (constructor <;> omega) | exact hM _ | exact hPo _ | exact hTa _ | exact hRo _) (by first | assumption | exact b01_r | exact bz_r | omega | (constructor <;> omega) | exact hM _ | exact hPo _ | exact hTa _ | exact hRo _) (fun c_75 => ?_) (fun c_75 => ?_)
      · refine rj_iconst (pc := 96) dX11_entries_96 ?_
        refine rj_iadd (pc := 97) dX11_entries_97 ?_
        refine r_istore_n (pc := 98) dX11_entries_98 (Nat.le_of_ble_eq_true rfl) ?_
        dsimp only [lsSt, List.set, mLs, mEnt]
        refine rj_iinc (pc := 99) dX11_entries_99 (Nat.le_of_ble_eq_true rfl) rfl ?_
        dsimp only [lsSt, List.set, mLs, mEnt]
        refine r_goto (pc := 102) (tgt := 53) dX11_entries_102 (by decide) ?_
        have z := ih (t + 1) (by omega) (by omega)
        rw [← cnt_f (by simp only [entSC, entSB, Bool.and_eq_true, decide_eq_true_eq, Bool.and_eq_false_iff, decide_eq_false_iff_not]; (try simp only [n_open, n_held, n_ready, n_sc0, n_sc1, n_sc3, n_th1, n_fa] at *); omega), ← Int.add_assoc] at z
        exact z
      · refine r_aload_n (pc := 78) dX11_entries_78 rfl (by first | rfl | exact isRefV_rf _) ?_
        refine rm_getf (pc := 79) dX11_entries_79 fX11_11 (by assumption) rfl ?_
        refine r_iload_n (pc := 82) dX11_entries_82 rfl ?_
        refine rj_iconst (pc := 83) dX11_entries_83 ?_
        refine r_callS2 (pc := 84) dX11_entries_84 qX11_ofScope kX11_42 sX11_ofScope (Nat.le_of_ble_eq_true rfl) (m_ofScope (d + 1)) (fun v_84 h_84 q_84 => ?_)
        obtain ⟨rfl, rfl⟩ := q_84
        refine rj_iald (pc := 87) dX11_entries_87 (by first | exact isM.g0 (by assumption) | exact isM.g3 (by assumption) | exact isM.g4 (by assumption) | exact isM.g8 (by assumption) | exact isM.g7 (by assumption) | exact isM.g6 (by assumption) | exact isM.g5 (by assumption) | exact isM.g1 (by assumption) | exact isM.g2 (by assumption)) (by first | assumption | exact b01_r | exact bz_r | omega | (constructor <;> omega) | exact hM _ | exact hPo _ | exact hTa _ | exact hRo _) (by first | assumption | exact b01_r | exact bz_r | omega | (constructor <;> omega) | exact hM _ | exact hPo _ | exact hTa _ | exact hRo _) (by first | assumption | exact b01_r | exact bz_r | omega | (constructor <;> omega) | exact hM _ | exact hPo _ | exact hTa _ | exact hRo _) rfl ?_
        refine r_iload_n (pc := 88) dX11_entries_88 rfl ?_
        refine rj_icmp_ne (pc := 89) (tgt := 96) dX11_entries_89 (by decide) (by first | assumption | exact b01_r | exact bz_r | omega | (constructor <;> omega) | exact hM _ | exact hPo _ | exact hTa _ | exact hRo _) (by first | assumption | exact b01_r | exact bz_r | omega | (constructor <;> omega) | exact hM _ | exact hPo _ | exact hTa _ | exact hRo _) (fun c_89 => ?_) (fun c_89 => ?_)
        · refine rj_iconst (pc := 96) dX11_entries_96 ?_
          refine rj_iadd (pc := 97) dX11_entries_97 ?_
          refine r_istore_n (pc := 98) dX11_entries_98 (Nat.le_of_ble_eq_true rfl) ?_
          dsimp only [lsSt, List.set, mLs, mEnt]
          refine rj_iinc (pc := 99) dX11_entries_99 (Nat.le_of_ble_eq_true rfl) rfl ?_
          dsimp only [lsSt, List.set, mLs, mEnt]
          refine r_goto (pc := 102) (tgt := 53) dX11_entries_102 (by decide) ?_
          have z := ih (t + 1) (by omega) (by omega)
          rw [← cnt_f (by simp only [entSC, entSB, Bool.and_eq_true, decide_eq_true_eq, Bool.and_eq_false_iff, decide_eq_false_iff_not]; (try simp only [n_open, n_held, n_ready, n_sc0, n_sc1, n_sc3, n_th1, n_fa] at *); omega), ← Int.add_assoc] at z
          exact z
        · refine rj_iconst (pc := 92) dX11_entries_92 ?_
          refine r_goto (pc := 93) (tgt := 97) dX11_entries_93 (by decide) ?_
          refine rj_iadd (pc := 97) dX11_entries_97 ?_
          refine r_istore_n (pc := 98) dX11_entries_98 (Nat.le_of_ble_eq_true rfl) ?_
          dsimp only [lsSt, List.set, mLs, mEnt]
          refine rj_iinc (pc := 99) dX11_entries_99 (Nat.le_of_ble_eq_true rfl) rfl ?_
          dsimp only [lsSt, List.set, mLs, mEnt]
          refine r_goto (pc := 102) (tgt := 53) dX11_entries_102 (by decide) ?_
          have z := ih (t + 1) (by omega) (by omega)
          rw [← cnt_t (by simp only [entSC, entSB, Bool.and_eq_true, decide_eq_true_eq, Bool.and_eq_false_iff, decide_eq_false_iff_not]; (try simp only [n_open, n_held, n_ready, n_sc0, n_sc1, n_sc3, n_th1, n_fa] at *); omega), ← Int.add_assoc] at z
          exact z
end mg_22

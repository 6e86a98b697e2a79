section mg_31
set_option maxHeartbeats 4000000 in
set_option maxRecDepth 100000 in
theorem L_lastS {G : mG} {l : Launch} (d : Nat) {h : mH} {x s : Nat} {f4 f6 f8 f9 f10 f11 f12 f13 f14 f16 f18 : Int} {m kp was pool tape pln pap rwd rw : Nat → Int}(hB : isM h x (mFs x f4 f6 f8 f9 f10 f11 f12 f13 f14 f16 f18 s) m kp was pool tape pln pap rwd rw) (hM : ∀ q, InR (m q)) {N C : Nat} (hN : m 1 = (N : Int)) (hcap : N ≤ 90) (hC : m 0 = (C : Int)) (hC1 : 1 ≤ C) (hC2 : C ≤ 60) {a : Int} (ha : InR a) : ∀ (n t : Nat) (r : Int × Int), t + n = C → InR r.2 → RUN G l (d + 3) mX11_lastOf 88 [some (.ref x), some (.int (J a)), some (.int (J r.1)), some (.int (J r.2)), some (.int (J (t : Int)))] [] h (fun v h' => v = some (.int (J (loS m a n t r).1)) ∧ h' = h) := by
  dsimp only [mFs] at hB
  have r0 := hM 0
  intro n
  induction n with
  | zero =>
    intro t r ht hr
    refine r_iload (pc := 88) dX11_lastOf_88 rfl ?_
    refine r_aload_n (pc := 90) dX11_lastOf_90 rfl (by first | rfl | exact isRefV_rf _) ?_
    refine rm_getf (pc := 91) dX11_lastOf_91 fX11_11 (by assumption) rfl ?_
    refine rj_iconst (pc := 94) dX11_lastOf_94 ?_
    refine rj_iald (pc := 95) (j := 0) dX11_lastOf_95 (by first | exact isM.g0 (by assumption) | exact isM.g3 (by assumption) | exact isM.g4 (by assumption) | exact isM.g8 (by assumption) | exact isM.g7 (by assumption) | exact isM.g6 (by assumption) | exact isM.g5 (by assumption) | exact isM.g1 (by assumption) | exact isM.g2 (by assumption)) (by first | assumption | exact b01_r | exact bz_r | omega | (constructor <;> omega) | exact hM _ | exact hPo _ | exact hTa _ | exact hRo _) (by first | assumption | exact b01_r | exact bz_r | omega | (constructor <;> omega) | exact hM _ | exact hPo _ | exact hTa _ | exact hRo _) (by first | assumption | exact b01_r | exact bz_r | omega | (constructor <;> omega) | exact hM _ | exact hPo _ | exact hTa _ | exact hRo _) rfl ?_
    refine rj_icmp_ge (pc := 96) (tgt := 165) dX11_lastOf_96 (by decide) (by first | assumption | exact b01_r | exact bz_r | omega | (constructor <;> omega) | exact hM _ | exact hPo _ | exact hTa _ | exact hRo _) (by first | assumption | exact b01_r | exact bz_r | omega | (constructor <;> omega) | exact hM _ | exact hPo _ | exact hTa _ | exact hRo _) (fun c_96 => ?_) (fun c_96 => ?_)
    · refine r_iload_n (pc := 165) dX11_lastOf_165 rfl ?_
      refine r_ireturn (pc := 166) .int dX11_lastOf_166 rfl (by first | rfl | assumption) ?_
      exact ⟨rfl, rfl⟩
    · exfalso; omega
  | succ n ih =>
    intro t r ht hr
    have r2 := hM (20 + 4 * t)
    refine r_iload (pc := 88) dX11_lastOf_88 rfl ?_
    refine r_aload_n (pc := 90) dX11_lastOf_90 rfl (by first | rfl | exact isRefV_rf _) ?_
    refine rm_getf (pc := 91) dX11_lastOf_91 fX11_11 (by assumption) rfl ?_
    refine rj_iconst (pc := 94) dX11_lastOf_94 ?_
    refine rj_iald (pc := 95) (j := 0) dX11_lastOf_95 (by first | exact isM.g0 (by assumption) | exact isM.g3 (by assumption) | exact isM.g4 (by assumption) | exact isM.g8 (by assumption) | exact isM.g7 (by assumption) | exact isM.g6 (by assumption) | exact isM.g5 (by assumption) | exact isM.g1 (by assumption) | exact isM.g2 (by assumption)) (by first | assumption | exact b01_r | exact bz_r | omega | (constructor <;> omega) | exact hM _ | exact hPo _ | exact hTa _ | exact hRo _) (by first | assumption | exact b01_r | exact bz_r | omega | (constructor <;> omega) | exact hM _ | exact hPo _ | exact hTa _ | exact hRo _) (by first | assumption | exact b01_r | exact bz_r | omega | (constructor <;> omega) | exact hM _ | exact hPo _ | exact hTa _ | exact hRo _) rfl ?_
    refine rj_icmp_ge (pc := 96) (tgt := 165) dX11_lastOf_96 (by decide) (by first | assumption | exact b01_r | exact bz_r | omega | (constructor <;> omega) | exact hM _ | exact hPo _ | exact hTa _ | exact hRo _) (by first | assumption | exact b01_r | exact bz_r | omega | (constructor <;> omega) | exact hM _ | exact hPo _ | exact hTa _ | exact hRo _) (fun c_96 => ?_) (fun c_96 => ?_)
    · refine r_iload_n (pc := 165) dX11_lastOf_165 rfl ?_
      refine r_ireturn (pc := 166) .int dX11_lastOf_166 rfl (by first | rfl | assumption) ?_
      exfalso; omega
    · refine r_aload_n (pc := 99) dX11_lastOf_99 rfl (by first | rfl | exact isRefV_rf _) ?_
      refine r_iload (pc := 100) dX11_lastOf_100 rfl ?_
      refine r_callV1 (pc := 102) dX11_lastOf_102 qX11_isOpen kX11_146 vX11_isOpen (by exact isM.gx (by assumption)) rfl rfl (Nat.le_of_ble_eq_true rfl) (m_isOpen d hB hM ⟨by omega, by omega⟩ ⟨by omega, by omega⟩) (fun v_102 h_102 q_102 => ?_)
      obtain ⟨rfl, rfl⟩ := q_102
      refine rj_if_eq (pc := 105) (tgt := 159) dX11_lastOf_105 (by decide) (by first | assumption | exact b01_r | exact bz_r | omega | (constructor <;> omega) | exact hM _ | exact hPo _ | exact hTa _ | exact hRo _) (fun c_105 => ?_) (fun c_105 => ?_)
      · try simp only [b01_0, bz_0, Classical.not_not] at c_105
        refine rj_iinc (pc := 159) dX11_lastOf_159 (Nat.le_of_ble_eq_true rfl) rfl ?_
        dsimp only [lsSt, List.set, mLs, mEnt]
        refine r_goto (pc := 162) (tgt := 88) dX11_lastOf_162 (by decide) ?_
        have z := ih (t + 1) r (by omega) hr
        rw [loS, if_neg (fun g => c_105 (by have := g.1; simp only [openB, decide_eq_true_eq] at this; rw [n_open]; omega))]
        exact z
      · try simp only [b01_0, bz_0, Classical.not_not] at c_105
        refine r_aload_n (pc := 108) dX11_lastOf_108 rfl (by first | rfl | exact isRefV_rf _) ?_
        refine rm_getf (pc := 109) dX11_lastOf_109 fX11_11 (by assumption) rfl ?_
        refine r_iload (pc := 112) dX11_lastOf_112 rfl ?_
        refine rj_iconst (pc := 114) dX11_lastOf_114 ?_
        refine r_callS2 (pc := 115) dX11_lastOf_115 qX11_ofScope kX11_42 sX11_ofScope (Nat.le_of_ble_eq_true rfl) (m_ofScope (d + 2)) (fun v_115 h_115 q_115 => ?_)
        obtain ⟨rfl, rfl⟩ := q_115
        refine rj_iald (pc := 118) (j := 19 + 4 * t) dX11_lastOf_118 (by first | exact isM.g0 (by assumption) | exact isM.g3 (by assumption) | exact isM.g4 (by assumption) | exact isM.g8 (by assumption) | exact isM.g7 (by assumption) | exact isM.g6 (by assumption) | exact isM.g5 (by assumption) | exact isM.g1 (by assumption) | exact isM.g2 (by assumption)) (by first | assumption | exact b01_r | exact bz_r | omega | (constructor <;> omega) | exact hM _ | exact hPo _ | exact hTa _ | exact hRo _) (by first | assumption | exact b01_r | exact bz_r | omega | (constructor <;> omega) | exact hM _ | exact hPo _ | exact hTa _ | exact hRo _) (by first | assumption | exact b01_r | exact bz_r | omega | (constructor <;> omega) | exact hM _ | exact hPo _ | exact hTa _ | exact hRo _) (by omega) ?_
        refine r_iload_n (pc := 119) dX11_lastOf_119 rfl ?_
        refine rj_icmp_ne (pc := 120) (tgt := 159) dX11_lastOf_120 (by decide) (by first | assumption | exact b01_r | exact bz_r | omega | (constructor <;> omega) | exact hM _ | exact hPo _ | exact hTa _ | exact hRo _) (by first | assumption | exact b01_r | exact bz_r | omega | (constructor <;> omega) | exact hM _ | exact hPo _ | exact hTa _ | exact hRo _) (fun c_120 => ?_) (fun c_120 => ?_)
        · refine rj_iinc (pc := 159) dX11_lastOf_159 (Nat.le_of_ble_eq_true rfl) rfl ?_
          dsimp only [lsSt, List.set, mLs, mEnt]
          refine r_goto (pc := 162) (tgt := 88) dX11_lastOf_162 (by decide) ?_
          have z := ih (t + 1) r (by omega) hr
          rw [loS, if_neg (fun g => c_120 g.2.1)]
          exact z
        · refine r_aload_n (pc := 123) dX11_lastOf_123 rfl (by first | rfl | exact isRefV_rf _) ?_
          refine rm_getf (pc := 124) dX11_lastOf_124 fX11_11 (by assumption) rfl ?_
          refine r_iload (pc := 127) dX11_lastOf_127 rfl ?_
          refine rj_iconst (pc := 129) dX11_lastOf_129 ?_
          refine r_callS2 (pc := 130) dX11_lastOf_130 qX11_ofScope kX11_42 sX11_ofScope (Nat.le_of_ble_eq_true rfl) (m_ofScope (d + 2)) (fun v_130 h_130 q_130 => ?_)
          obtain ⟨rfl, rfl⟩ := q_130
          refine rj_iald (pc := 133) (j := 20 + 4 * t) dX11_lastOf_133 (by first | exact isM.g0 (by assumption) | exact isM.g3 (by assumption) | exact isM.g4 (by assumption) | exact isM.g8 (by assumption) | exact isM.g7 (by assumption) | exact isM.g6 (by assumption) | exact isM.g5 (by assumption) | exact isM.g1 (by assumption) | exact isM.g2 (by assumption)) (by first | assumption | exact b01_r | exact bz_r | omega | (constructor <;> omega) | exact hM _ | exact hPo _ | exact hTa _ | exact hRo _) (by first | assumption | exact b01_r | exact bz_r | omega | (constructor <;> omega) | exact hM _ | exact hPo _ | exact hTa _ | exact hRo _) (by first | assumption | exact b01_r | exact bz_r | omega | (constructor <;> omega) | exact hM _ | exact hPo _ | exact hTa _ | exact hRo _) (by omega) ?_
          refine r_iload_n (pc := 134) dX11_lastOf_134 rfl ?_
          refine rj_icmp_ge (pc := 135) (tgt := 141) dX11_lastOf_135 (by decide) (by first | assumption | exact b01_r | exact bz_r | omega | (constructor <;> omega) | exact hM _ | exact hPo _ | exact hTa _ | exact hRo _) (by first | assumption | exact b01_r | exact bz_r | omega | (constructor <;> omega) | exact hM _ | exact hPo _ | exact hTa _ | exact hRo _) (fun c_135 => ?_) (fun c_135 => ?_)
          · refine rj_bipush (pc := 141) dX11_lastOf_141 (by decide +kernel) ?_
            refine r_iload (pc := 143) dX11_lastOf_143 rfl ?_
            refine rj_iadd (pc := 145) dX11_lastOf_145 ?_
            refine r_istore_n (pc := 146) dX11_lastOf_146 (Nat.le_of_ble_eq_true rfl) ?_
            dsimp only [lsSt, List.set, mLs, mEnt]
            refine r_aload_n (pc := 147) dX11_lastOf_147 rfl (by first | rfl | exact isRefV_rf _) ?_
            refine rm_getf (pc := 148) dX11_lastOf_148 fX11_11 (by assumption) rfl ?_
            refine r_iload (pc := 151) dX11_lastOf_151 rfl ?_
            refine rj_iconst (pc := 153) dX11_lastOf_153 ?_
            refine r_callS2 (pc := 154) dX11_lastOf_154 qX11_ofScope kX11_42 sX11_ofScope (Nat.le_of_ble_eq_true rfl) (m_ofScope (d + 2)) (fun v_154 h_154 q_154 => ?_)
            obtain ⟨rfl, rfl⟩ := q_154
            refine rj_iald (pc := 157) (j := 20 + 4 * t) dX11_lastOf_157 (by first | exact isM.g0 (by assumption) | exact isM.g3 (by assumption) | exact isM.g4 (by assumption) | exact isM.g8 (by assumption) | exact isM.g7 (by assumption) | exact isM.g6 (by assumption) | exact isM.g5 (by assumption) | exact isM.g1 (by assumption) | exact isM.g2 (by assumption)) (by first | assumption | exact b01_r | exact bz_r | omega | (constructor <;> omega) | exact hM _ | exact hPo _ | exact hTa _ | exact hRo _) (by first | assumption | exact b01_r | exact bz_r | omega | (constructor <;> omega) | exact hM _ | exact hPo _ | exact hTa _ | exact hRo _) (by first | assumption | exact b01_r | exact bz_r | omega | (constructor <;> omega) | exact hM _ | exact hPo _ | exact hTa _ | exact hRo _) (by omega) ?_
            refine r_istore_n (pc := 158) dX11_lastOf_158 (Nat.le_of_ble_eq_true rfl) ?_
            dsimp only [lsSt, List.set, mLs, mEnt]
            refine rj_iinc (pc := 159) dX11_lastOf_159 (Nat.le_of_ble_eq_true rfl) rfl ?_
            dsimp only [lsSt, List.set, mLs, mEnt]
            refine r_goto (pc := 162) (tgt := 88) dX11_lastOf_162 (by decide) ?_
            have z := ih (t + 1) (100 + (t : Int), m (20 + 4 * t)) (by omega) (hM _)
            rw [loS, if_pos ⟨by simp only [openB, decide_eq_true_eq]; rw [n_open] at c_105; exact c_105.2.2, c_120, c_135⟩]
            exact z
          · refine r_goto (pc := 138) (tgt := 159) dX11_lastOf_138 (by decide) ?_
            refine rj_iinc (pc := 159) dX11_lastOf_159 (Nat.le_of_ble_eq_true rfl) rfl ?_
            dsimp only [lsSt, List.set, mLs, mEnt]
            refine r_goto (pc := 162) (tgt := 88) dX11_lastOf_162 (by decide) ?_
            have z := ih (t + 1) r (by omega) hr
            rw [loS, if_neg (fun g => c_135 g.2.2)]
            exact z
end mg_31

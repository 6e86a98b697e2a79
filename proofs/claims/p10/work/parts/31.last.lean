/-! ===== contracts of the reference: the last entry, the next task, copies ===== -/
def loT (m : Nat → Int) (s : Int) : Nat → Nat → Int × Int → Int × Int
  | 0, _, r => r
  | n + 1, t, r => loT m s n (t + 1) (if heldB m t = true ∧ m (259 + 14 * t) = s ∧ r.2 ≤ m (260 + 14 * t) then ((t : Int), m (260 + 14 * t)) else r)
def loS (m : Nat → Int) (s : Int) : Nat → Nat → Int × Int → Int × Int
  | 0, _, r => r
  | n + 1, c, r => loS m s n (c + 1) (if openB m c = true ∧ m (19 + 4 * c) = s ∧ r.2 ≤ m (20 + 4 * c) then (100 + (c : Int), m (20 + 4 * c)) else r)
/-- the last entry of a scope that is held or open (100 and a scope's number); -5 -/
def lastM (m : Nat → Int) (s : Int) (N C : Nat) : Int := (loS m s (C - 1) 1 (loT m s N 0 (-5, -1))).1
theorem loT_r {m : Nat → Int} {s : Int} (hM : ∀ q, InR (m q)) : ∀ (n t : Nat) (r : Int × Int), InR r.2 → InR (loT m s n t r).2
  | 0, _, _, h => h
  | n + 1, t, r, h => by
    unfold loT
    refine loT_r hM n _ _ ?_
    split
    · exact hM _
    · exact h
theorem n_th2 (t : Nat) : (258 + 14 * (t : Int) + 2 + 0).toNat = 260 + 14 * t := by omega
theorem n_sc2 (t : Nat) : (18 + 4 * (t : Int) + 2).toNat = 20 + 4 * t := by omega
set_option maxHeartbeats 4000000 in
set_option maxRecDepth 100000 in
theorem L_lastS {G : mG} {l : Launch} (d : Nat) {h : mH} {x s : Nat} {f4 f6 f8 f9 f10 f11 f12 f13 f14 f16 f18 : Int} {m kp was pool tape pln pap rwd rw : Nat → Int}(hB : isM h x (mFs x f4 f6 f8 f9 f10 f11 f12 f13 f14 f16 f18 s) m kp was pool tape pln pap rwd rw) (hM : ∀ q, InR (m q)) {N C : Nat} (hN : m 1 = (N : Int)) (hcap : N ≤ 90) (hC : m 0 = (C : Int)) (hC1 : 1 ≤ C) (hC2 : C ≤ 60) {a : Int} (ha : InR a) : ∀ (n t : Nat) (r : Int × Int), t + n = C → InR r.2 → RUN G l (d + 3) mX11_lastOf 88 [some (.ref x), some (.int (J a)), some (.int (J r.1)), some (.int (J r.2)), some (.int (J (t : Int)))] [] h (fun v h' => v = some (.int (J (loS m a n t r).1)) ∧ h' = h) := by
  dsimp only [mFs] at hB
  have r0 := hM 0
  intro n
  induction n with
  | zero =>
    intro t r ht hr
    refine r_iload (pc := 88) dX11_lastOf_88 rfl ?_
    refine r_aload_n (pc := 90) dX11_lastOf_90 rfl (by first | rfl | exact isRefV_rf _) ?_
    refine rm_getf (pc := 91) dX11_lastOf_91 fX11_11 (by assumption) rfl ?_
    refine rj_iconst (pc := 94) dX11_lastOf_94 ?_
    refine rj_iald (pc := 95) (j := 0) dX11_lastOf_95 (by first | exact isM.g0 (by assumption) | exact isM.g3 (by assumption) | exact isM.g4 (by assumption) | exact isM.g8 (by assumption) | exact isM.g7 (by assumption) | exact isM.g6 (by assumption) | exact isM.g5 (by assumption) | exact isM.g1 (by assumption) | exact isM.g2 (by assumption)) (by first | assumption | exact b01_r | exact bz_r | omega | (constructor <;> omega) | exact hM _ | exact hPo _ | exact hTa _ | exact hRo _) (by first | assumption | exact b01_r | exact bz_r | omega | (constructor <;> omega) | exact hM _ | exact hPo _ | exact hTa _ | exact hRo _) (by first | assumption | exact b01_r | exact bz_r | omega | (constructor <;> omega) | exact hM _ | exact hPo _ | exact hTa _ | exact hRo _) rfl ?_
    refine rj_icmp_ge (pc := 96) (tgt := 165) dX11_lastOf_96 (by decide) (by first | assumption | exact b01_r | exact bz_r | omega | (constructor <;> omega) | exact hM _ | exact hPo _ | exact hTa _ | exact hRo _) (by first | assumption | exact b01_r | exact bz_r | omega | (constructor <;> omega) | exact hM _ | exact hPo _ | exact hTa _ | exact hRo _) (fun c_96 => ?_) (fun c_96 => ?_)
    · refine r_iload_n (pc := 165) dX11_lastOf_165 rfl ?_
      refine r_ireturn (pc := 166) .int dX11_lastOf_166 rfl (by first | rfl | assumption) ?_
      exact ⟨rfl, rfl⟩
    · exfalso; omega
  | succ n ih =>
    intro t r ht hr
    have r2 := hM (20 + 4 * t)
    refine r_iload (pc := 88) dX11_lastOf_88 rfl ?_
    refine r_aload_n (pc := 90) dX11_lastOf_90 rfl (by first | rfl | exact isRefV_rf _) ?_
    refine rm_getf (pc := 91) dX11_lastOf_91 fX11_11 (by assumption) rfl ?_
    refine rj_iconst (pc := 94) dX11_lastOf_94 ?_
    refine rj_iald (pc := 95) (j := 0) dX11_lastOf_95 (by first | exact isM.g0 (by assumption) | exact isM.g3 (by assumption) | exact isM.g4 (by assumption) | exact isM.g8 (by assumption) | exact isM.g7 (by assumption) | exact isM.g6 (by assumption) | exact isM.g5 (by assumption) | exact isM.g1 (by assumption) | exact isM.g2 (by assumption)) (by first | assumption | exact b01_r | exact bz_r | omega | (constructor <;> omega) | exact hM _ | exact hPo _ | exact hTa _ | exact hRo _) (by first | assumption | exact b01_r | exact bz_r | omega | (constructor <;> omega) | exact hM _ | exact hPo _ | exact hTa _ | exact hRo _) (by first | assumption | exact b01_r | exact bz_r | omega | (constructor <;> omega) | exact hM _ | exact hPo _ | exact hTa _ | exact hRo _) rfl ?_
    refine rj_icmp_ge (pc := 96) (tgt := 165) dX11_lastOf_96 (by decide) (by first | assumption | exact b01_r | exact bz_r | omega | (constructor <;> omega) | exact hM _ | exact hPo _ | exact hTa _ | exact hRo _) (by first | assumption | exact b01_r | exact bz_r | omega | (constructor <;> omega) | exact hM _ | exact hPo _ | exact hTa _ | exact hRo _) (fun c_96 => ?_) (fun c_96 => ?_)
    · refine r_iload_n (pc := 165) dX11_lastOf_165 rfl ?_
      refine r_ireturn (pc := 166) .int dX11_lastOf_166 rfl (by first | rfl | assumption) ?_
      exfalso; omega
    · refine r_aload_n (pc := 99) dX11_lastOf_99 rfl (by first | rfl | exact isRefV_rf _) ?_
      refine r_iload (pc := 100) dX11_lastOf_100 rfl ?_
      refine r_callV1 (pc := 102) dX11_lastOf_102 qX11_isOpen kX11_146 vX11_isOpen (by exact isM.gx (by assumption)) rfl rfl (Nat.le_of_ble_eq_true rfl) (m_isOpen d hB hM ⟨by omega, by omega⟩ ⟨by omega, by omega⟩) (fun v_102 h_102 q_102 => ?_)
      obtain ⟨rfl, rfl⟩ := q_102
      refine rj_if_eq (pc := 105) (tgt := 159) dX11_lastOf_105 (by decide) (by first | assumption | exact b01_r | exact bz_r | omega | (constructor <;> omega) | exact hM _ | exact hPo _ | exact hTa _ | exact hRo _) (fun c_105 => ?_) (fun c_105 => ?_)
      · try simp only [b01_0, bz_0, Classical.not_not] at c_105
        refine rj_iinc (pc := 159) dX11_lastOf_159 (Nat.le_of_ble_eq_true rfl) rfl ?_
        dsimp only [lsSt, List.set, mLs, mEnt]
        refine r_goto (pc := 162) (tgt := 88) dX11_lastOf_162 (by decide) ?_
        have z := ih (t + 1) r (by omega) hr
        rw [loS, if_neg (fun g => c_105 (by have := g.1; simp only [openB, decide_eq_true_eq] at this; rw [n_open]; omega))]
        exact z
      · try simp only [b01_0, bz_0, Classical.not_not] at c_105
        refine r_aload_n (pc := 108) dX11_lastOf_108 rfl (by first | rfl | exact isRefV_rf _) ?_
        refine rm_getf (pc := 109) dX11_lastOf_109 fX11_11 (by assumption) rfl ?_
        refine r_iload (pc := 112) dX11_lastOf_112 rfl ?_
        refine rj_iconst (pc := 114) dX11_lastOf_114 ?_
        refine r_callS2 (pc := 115) dX11_lastOf_115 qX11_ofScope kX11_42 sX11_ofScope (Nat.le_of_ble_eq_true rfl) (m_ofScope (d + 2)) (fun v_115 h_115 q_115 => ?_)
        obtain ⟨rfl, rfl⟩ := q_115
        refine rj_iald (pc := 118) (j := 19 + 4 * t) dX11_lastOf_118 (by first | exact isM.g0 (by assumption) | exact isM.g3 (by assumption) | exact isM.g4 (by assumption) | exact isM.g8 (by assumption) | exact isM.g7 (by assumption) | exact isM.g6 (by assumption) | exact isM.g5 (by assumption) | exact isM.g1 (by assumption) | exact isM.g2 (by assumption)) (by first | assumption | exact b01_r | exact bz_r | omega | (constructor <;> omega) | exact hM _ | exact hPo _ | exact hTa _ | exact hRo _) (by first | assumption | exact b01_r | exact bz_r | omega | (constructor <;> omega) | exact hM _ | exact hPo _ | exact hTa _ | exact hRo _) (by first | assumption | exact b01_r | exact bz_r | omega | (constructor <;> omega) | exact hM _ | exact hPo _ | exact hTa _ | exact hRo _) (by omega) ?_
        refine r_iload_n (pc := 119) dX11_lastOf_119 rfl ?_
        refine rj_icmp_ne (pc := 120) (tgt := 159) dX11_lastOf_120 (by decide) (by first | assumption | exact b01_r | exact bz_r | omega | (constructor <;> omega) | exact hM _ | exact hPo _ | exact hTa _ | exact hRo _) (by first | assumption | exact b01_r | exact bz_r | omega | (constructor <;> omega) | exact hM _ | exact hPo _ | exact hTa _ | exact hRo _) (fun c_120 => ?_) (fun c_120 => ?_)
        · refine rj_iinc (pc := 159) dX11_lastOf_159 (Nat.le_of_ble_eq_true rfl) rfl ?_
          dsimp only [lsSt, List.set, mLs, mEnt]
          refine r_goto (pc := 162) (tgt := 88) dX11_lastOf_162 (by decide) ?_
          have z := ih (t + 1) r (by omega) hr
          rw [loS, if_neg (fun g => c_120 g.2.1)]
          exact z
        · refine r_aload_n (pc := 123) dX11_lastOf_123 rfl (by first | rfl | exact isRefV_rf _) ?_
          refine rm_getf (pc := 124) dX11_lastOf_124 fX11_11 (by assumption) rfl ?_
          refine r_iload (pc := 127) dX11_lastOf_127 rfl ?_
          refine rj_iconst (pc := 129) dX11_lastOf_129 ?_
          refine r_callS2 (pc := 130) dX11_lastOf_130 qX11_ofScope kX11_42 sX11_ofScope (Nat.le_of_ble_eq_true rfl) (m_ofScope (d + 2)) (fun v_130 h_130 q_130 => ?_)
          obtain ⟨rfl, rfl⟩ := q_130
          refine rj_iald (pc := 133) (j := 20 + 4 * t) dX11_lastOf_133 (by first | exact isM.g0 (by assumption) | exact isM.g3 (by assumption) | exact isM.g4 (by assumption) | exact isM.g8 (by assumption) | exact isM.g7 (by assumption) | exact isM.g6 (by assumption) | exact isM.g5 (by assumption) | exact isM.g1 (by assumption) | exact isM.g2 (by assumption)) (by first | assumption | exact b01_r | exact bz_r | omega | (constructor <;> omega) | exact hM _ | exact hPo _ | exact hTa _ | exact hRo _) (by first | assumption | exact b01_r | exact bz_r | omega | (constructor <;> omega) | exact hM _ | exact hPo _ | exact hTa _ | exact hRo _) (by first | assumption | exact b01_r | exact bz_r | omega | (constructor <;> omega) | exact hM _ | exact hPo _ | exact hTa _ | exact hRo _) (by omega) ?_
          refine r_iload_n (pc := 134) dX11_lastOf_134 rfl ?_
          refine rj_icmp_ge (pc := 135) (tgt := 141) dX11_lastOf_135 (by decide) (by first | assumption | exact b01_r | exact bz_r | omega | (constructor <;> omega) | exact hM _ | exact hPo _ | exact hTa _ | exact hRo _) (by first | assumption | exact b01_r | exact bz_r | omega | (constructor <;> omega) | exact hM _ | exact hPo _ | exact hTa _ | exact hRo _) (fun c_135 => ?_) (fun c_135 => ?_)
          · refine rj_bipush (pc := 141) dX11_lastOf_141 (by decide +kernel) ?_
            refine r_iload (pc := 143) dX11_lastOf_143 rfl ?_
            refine rj_iadd (pc := 145) dX11_lastOf_145 ?_
            refine r_istore_n (pc := 146) dX11_lastOf_146 (Nat.le_of_ble_eq_true rfl) ?_
            dsimp only [lsSt, List.set, mLs, mEnt]
            refine r_aload_n (pc := 147) dX11_lastOf_147 rfl (by first | rfl | exact isRefV_rf _) ?_
            refine rm_getf (pc := 148) dX11_lastOf_148 fX11_11 (by assumption) rfl ?_
            refine r_iload (pc := 151) dX11_lastOf_151 rfl ?_
            refine rj_iconst (pc := 153) dX11_lastOf_153 ?_
            refine r_callS2 (pc := 154) dX11_lastOf_154 qX11_ofScope kX11_42 sX11_ofScope (Nat.le_of_ble_eq_true rfl) (m_ofScope (d + 2)) (fun v_154 h_154 q_154 => ?_)
            obtain ⟨rfl, rfl⟩ := q_154
            refine rj_iald (pc := 157) (j := 20 + 4 * t) dX11_lastOf_157 (by first | exact isM.g0 (by assumption) | exact isM.g3 (by assumption) | exact isM.g4 (by assumption) | exact isM.g8 (by assumption) | exact isM.g7 (by assumption) | exact isM.g6 (by assumption) | exact isM.g5 (by assumption) | exact isM.g1 (by assumption) | exact isM.g2 (by assumption)) (by first | assumption | exact b01_r | exact bz_r | omega | (constructor <;> omega) | exact hM _ | exact hPo _ | exact hTa _ | exact hRo _) (by first | assumption | exact b01_r | exact bz_r | omega | (constructor <;> omega) | exact hM _ | exact hPo _ | exact hTa _ | exact hRo _) (by first | assumption | exact b01_r | exact bz_r | omega | (constructor <;> omega) | exact hM _ | exact hPo _ | exact hTa _ | exact hRo _) (by omega) ?_
            refine r_istore_n (pc := 158) dX11_lastOf_158 (Nat.le_of_ble_eq_true rfl) ?_
            dsimp only [lsSt, List.set, mLs, mEnt]
            refine rj_iinc (pc := 159) dX11_lastOf_159 (Nat.le_of_ble_eq_true rfl) rfl ?_
            dsimp only [lsSt, List.set, mLs, mEnt]
            refine r_goto (pc := 162) (tgt := 88) dX11_lastOf_162 (by decide) ?_
            have z := ih (t + 1) (100 + (t : Int), m (20 + 4 * t)) (by omega) (hM _)
            rw [loS, if_pos ⟨by simp only [openB, decide_eq_true_eq]; rw [n_open] at c_105; exact c_105.2.2, c_120, c_135⟩]
            exact z
          · refine r_goto (pc := 138) (tgt := 159) dX11_lastOf_138 (by decide) ?_
            refine rj_iinc (pc := 159) dX11_lastOf_159 (Nat.le_of_ble_eq_true rfl) rfl ?_
            dsimp only [lsSt, List.set, mLs, mEnt]
            refine r_goto (pc := 162) (tgt := 88) dX11_lastOf_162 (by decide) ?_
            have z := ih (t + 1) r (by omega) hr
            rw [loS, if_neg (fun g => c_135 g.2.2)]
            exact z
set_option maxHeartbeats 4000000 in
set_option maxRecDepth 100000 in
theorem L_lastT {G : mG} {l : Launch} (d : Nat) {h : mH} {x s : Nat} {f4 f6 f8 f9 f10 f11 f12 f13 f14 f16 f18 : Int} {m kp was pool tape pln pap rwd rw : Nat → Int}(hB : isM h x (mFs x f4 f6 f8 f9 f10 f11 f12 f13 f14 f16 f18 s) m kp was pool tape pln pap rwd rw) (hM : ∀ q, InR (m q)) {N C : Nat} (hN : m 1 = (N : Int)) (hcap : N ≤ 90) (hC : m 0 = (C : Int)) (hC1 : 1 ≤ C) (hC2 : C ≤ 60) {a : Int} (ha : InR a) : ∀ (n t : Nat) (r : Int × Int), t + n = N → InR r.2 → RUN G l (d + 3) mX11_lastOf 8 [some (.ref x), some (.int (J a)), some (.int (J r.1)), some (.int (J r.2)), some (.int (J (t : Int)))] [] h (fun v h' => v = some (.int (J (loS m a (C - 1) 1 (loT m a n t r)).1)) ∧ h' = h) := by
  have hB0 := hB
  dsimp only [mFs] at hB
  have r1 := hM 1
  intro n
  induction n with
  | zero =>
    intro t r ht hr
    refine r_iload (pc := 8) dX11_lastOf_8 rfl ?_
    refine r_aload_n (pc := 10) dX11_lastOf_10 rfl (by first | rfl | exact isRefV_rf _) ?_
    refine rm_getf (pc := 11) dX11_lastOf_11 fX11_11 (by assumption) rfl ?_
    refine rj_iconst (pc := 14) dX11_lastOf_14 ?_
    refine rj_iald (pc := 15) (j := 1) dX11_lastOf_15 (by first | exact isM.g0 (by assumption) | exact isM.g3 (by assumption) | exact isM.g4 (by assumption) | exact isM.g8 (by assumption) | exact isM.g7 (by assumption) | exact isM.g6 (by assumption) | exact isM.g5 (by assumption) | exact isM.g1 (by assumption) | exact isM.g2 (by assumption)) (by first | assumption | exact b01_r | exact bz_r | omega | (constructor <;> omega) | exact hM _ | exact hPo _ | exact hTa _ | exact hRo _) (by first | assumption | exact b01_r | exact bz_r | omega | (constructor <;> omega) | exact hM _ | exact hPo _ | exact hTa _ | exact hRo _) (by first | assumption | exact b01_r | exact bz_r | omega | (constructor <;> omega) | exact hM _ | exact hPo _ | exact hTa _ | exact hRo _) rfl ?_
    refine rj_icmp_ge (pc := 16) (tgt := 85) dX11_lastOf_16 (by decide) (by first | assumption | exact b01_r | exact bz_r | omega | (constructor <;> omega) | exact hM _ | exact hPo _ | exact hTa _ | exact hRo _) (by first | assumption | exact b01_r | exact bz_r | omega | (constructor <;> omega) | exact hM _ | exact hPo _ | exact hTa _ | exact hRo _) (fun c_16 => ?_) (fun c_16 => ?_)
    · refine rj_iconst (pc := 85) dX11_lastOf_85 ?_
      refine r_istore (pc := 86) dX11_lastOf_86 (Nat.le_of_ble_eq_true rfl) ?_
      dsimp only [lsSt, List.set, mLs, mEnt]
      exact L_lastS d hB0 hM hN hcap hC hC1 hC2 ha (C - 1) 1 r (by omega) hr
    · exfalso; omega
  | succ n ih =>
    intro t r ht hr
    have r2 := hM (260 + 14 * t)
    refine r_iload (pc := 8) dX11_lastOf_8 rfl ?_
    refine r_aload_n (pc := 10) dX11_lastOf_10 rfl (by first | rfl | exact isRefV_rf _) ?_
    refine rm_getf (pc := 11) dX11_lastOf_11 fX11_11 (by assumption) rfl ?_
    refine rj_iconst (pc := 14) dX11_lastOf_14 ?_
    refine rj_iald (pc := 15) (j := 1) dX11_lastOf_15 (by first | exact isM.g0 (by assumption) | exact isM.g3 (by assumption) | exact isM.g4 (by assumption) | exact isM.g8 (by assumption) | exact isM.g7 (by assumption) | exact isM.g6 (by assumption) | exact isM.g5 (by assumption) | exact isM.g1 (by assumption) | exact isM.g2 (by assumption)) (by first | assumption | exact b01_r | exact bz_r | omega | (constructor <;> omega) | exact hM _ | exact hPo _ | exact hTa _ | exact hRo _) (by first | assumption | exact b01_r | exact bz_r | omega | (constructor <;> omega) | exact hM _ | exact hPo _ | exact hTa _ | exact hRo _) (by first | assumption | exact b01_r | exact bz_r | omega | (constructor <;> omega) | exact hM _ | exact hPo _ | exact hTa _ | exact hRo _) rfl ?_
    refine rj_icmp_ge (pc := 16) (tgt := 85) dX11_lastOf_16 (by decide) (by first | assumption | exact b01_r | exact bz_r | omega | (constructor <;> omega) | exact hM _ | exact hPo _ | exact hTa _ | exact hRo _) (by first | assumption | exact b01_r | exact bz_r | omega | (constructor <;> omega) | exact hM _ | exact hPo _ | exact hTa _ | exact hRo _) (fun c_16 => ?_) (fun c_16 => ?_)
    · refine rj_iconst (pc := 85) dX11_lastOf_85 ?_
      refine r_istore (pc := 86) dX11_lastOf_86 (Nat.le_of_ble_eq_true rfl) ?_
      dsimp only [lsSt, List.set, mLs, mEnt]
      exfalso; omega
    · refine r_aload_n (pc := 19) dX11_lastOf_19 rfl (by first | rfl | exact isRefV_rf _) ?_
      refine r_iload (pc := 20) dX11_lastOf_20 rfl ?_
      refine r_callV1 (pc := 22) dX11_lastOf_22 qX11_isHeld kX11_119 vX11_isHeld (by exact isM.gx (by assumption)) rfl rfl (Nat.le_of_ble_eq_true rfl) (m_isHeld (d + 1) hB hM (by omega) (by omega)) (fun v_22 h_22 q_22 => ?_)
      obtain ⟨rfl, rfl⟩ := q_22
      refine rj_if_eq (pc := 25) (tgt := 79) dX11_lastOf_25 (by decide) (by first | assumption | exact b01_r | exact bz_r | omega | (constructor <;> omega) | exact hM _ | exact hPo _ | exact hTa _ | exact hRo _) (fun c_25 => ?_) (fun c_25 => ?_)
      · try simp only [b01_0, bz_0, Classical.not_not] at c_25
        refine rj_iinc (pc := 79) dX11_lastOf_79 (Nat.le_of_ble_eq_true rfl) rfl ?_
        dsimp only [lsSt, List.set, mLs, mEnt]
        refine r_goto (pc := 82) (tgt := 8) dX11_lastOf_82 (by decide) ?_
        have z := ih (t + 1) r (by omega) hr
        rw [loT, if_neg (fun g => c_25 (by have := g.1; simp only [heldB, decide_eq_true_eq] at this; rw [n_held]; exact this))]
        exact z
      · try simp only [b01_0, bz_0, Classical.not_not] at c_25
        refine r_aload_n (pc := 28) dX11_lastOf_28 rfl (by first | rfl | exact isRefV_rf _) ?_
        refine rm_getf (pc := 29) dX11_lastOf_29 fX11_11 (by assumption) rfl ?_
        refine r_iload (pc := 32) dX11_lastOf_32 rfl ?_
        refine rj_iconst (pc := 34) dX11_lastOf_34 ?_
        refine rj_iconst (pc := 35) dX11_lastOf_35 ?_
        refine r_callS3 (pc := 36) dX11_lastOf_36 qX11_ofThing kX11_54 sX11_ofThing (Nat.le_of_ble_eq_true rfl) (m_ofThing (d + 2)) (fun v_36 h_36 q_36 => ?_)
        obtain ⟨rfl, rfl⟩ := q_36
        refine rj_iald (pc := 39) (j := 259 + 14 * t) dX11_lastOf_39 (by first | exact isM.g0 (by assumption) | exact isM.g3 (by assumption) | exact isM.g4 (by assumption) | exact isM.g8 (by assumption) | exact isM.g7 (by assumption) | exact isM.g6 (by assumption) | exact isM.g5 (by assumption) | exact isM.g1 (by assumption) | exact isM.g2 (by assumption)) (by first | assumption | exact b01_r | exact bz_r | omega | (constructor <;> omega) | exact hM _ | exact hPo _ | exact hTa _ | exact hRo _) (by first | assumption | exact b01_r | exact bz_r | omega | (constructor <;> omega) | exact hM _ | exact hPo _ | exact hTa _ | exact hRo _) (by first | assumption | exact b01_r | exact bz_r | omega | (constructor <;> omega) | exact hM _ | exact hPo _ | exact hTa _ | exact hRo _) (by omega) ?_
        refine r_iload_n (pc := 40) dX11_lastOf_40 rfl ?_
        refine rj_icmp_ne (pc := 41) (tgt := 79) dX11_lastOf_41 (by decide) (by first | assumption | exact b01_r | exact bz_r | omega | (constructor <;> omega) | exact hM _ | exact hPo _ | exact hTa _ | exact hRo _) (by first | assumption | exact b01_r | exact bz_r | omega | (constructor <;> omega) | exact hM _ | exact hPo _ | exact hTa _ | exact hRo _) (fun c_41 => ?_) (fun c_41 => ?_)
        · refine rj_iinc (pc := 79) dX11_lastOf_79 (Nat.le_of_ble_eq_true rfl) rfl ?_
          dsimp only [lsSt, List.set, mLs, mEnt]
          refine r_goto (pc := 82) (tgt := 8) dX11_lastOf_82 (by decide) ?_
          have z := ih (t + 1) r (by omega) hr
          rw [loT, if_neg (fun g => c_41 g.2.1)]
          exact z
        · refine r_aload_n (pc := 44) dX11_lastOf_44 rfl (by first | rfl | exact isRefV_rf _) ?_
          refine rm_getf (pc := 45) dX11_lastOf_45 fX11_11 (by assumption) rfl ?_
          refine r_iload (pc := 48) dX11_lastOf_48 rfl ?_
          refine rj_iconst (pc := 50) dX11_lastOf_50 ?_
          refine rj_iconst (pc := 51) dX11_lastOf_51 ?_
          refine r_callS3 (pc := 52) dX11_lastOf_52 qX11_ofThing kX11_54 sX11_ofThing (Nat.le_of_ble_eq_true rfl) (m_ofThing (d + 2)) (fun v_52 h_52 q_52 => ?_)
          obtain ⟨rfl, rfl⟩ := q_52
          refine rj_iald (pc := 55) (j := 260 + 14 * t) dX11_lastOf_55 (by first | exact isM.g0 (by assumption) | exact isM.g3 (by assumption) | exact isM.g4 (by assumption) | exact isM.g8 (by assumption) | exact isM.g7 (by assumption) | exact isM.g6 (by assumption) | exact isM.g5 (by assumption) | exact isM.g1 (by assumption) | exact isM.g2 (by assumption)) (by first | assumption | exact b01_r | exact bz_r | omega | (constructor <;> omega) | exact hM _ | exact hPo _ | exact hTa _ | exact hRo _) (by first | assumption | exact b01_r | exact bz_r | omega | (constructor <;> omega) | exact hM _ | exact hPo _ | exact hTa _ | exact hRo _) (by first | assumption | exact b01_r | exact bz_r | omega | (constructor <;> omega) | exact hM _ | exact hPo _ | exact hTa _ | exact hRo _) (by omega) ?_
          refine r_iload_n (pc := 56) dX11_lastOf_56 rfl ?_
          refine rj_icmp_ge (pc := 57) (tgt := 63) dX11_lastOf_57 (by decide) (by first | assumption | exact b01_r | exact bz_r | omega | (constructor <;> omega) | exact hM _ | exact hPo _ | exact hTa _ | exact hRo _) (by first | assumption | exact b01_r | exact bz_r | omega | (constructor <;> omega) | exact hM _ | exact hPo _ | exact hTa _ | exact hRo _) (fun c_57 => ?_) (fun c_57 => ?_)
          · refine r_iload (pc := 63) dX11_lastOf_63 rfl ?_
            refine r_istore_n (pc := 65) dX11_lastOf_65 (Nat.le_of_ble_eq_true rfl) ?_
            dsimp only [lsSt, List.set, mLs, mEnt]
            refine r_aload_n (pc := 66) dX11_lastOf_66 rfl (by first | rfl | exact isRefV_rf _) ?_
            refine rm_getf (pc := 67) dX11_lastOf_67 fX11_11 (by assumption) rfl ?_
            refine r_iload (pc := 70) dX11_lastOf_70 rfl ?_
            refine rj_iconst (pc := 72) dX11_lastOf_72 ?_
            refine rj_iconst (pc := 73) dX11_lastOf_73 ?_
            refine r_callS3 (pc := 74) dX11_lastOf_74 qX11_ofThing kX11_54 sX11_ofThing (Nat.le_of_ble_eq_true rfl) (m_ofThing (d + 2)) (fun v_74 h_74 q_74 => ?_)
            obtain ⟨rfl, rfl⟩ := q_74
            refine rj_iald (pc := 77) (j := 260 + 14 * t) dX11_lastOf_77 (by first | exact isM.g0 (by assumption) | exact isM.g3 (by assumption) | exact isM.g4 (by assumption) | exact isM.g8 (by assumption) | exact isM.g7 (by assumption) | exact isM.g6 (by assumption) | exact isM.g5 (by assumption) | exact isM.g1 (by assumption) | exact isM.g2 (by assumption)) (by first | assumption | exact b01_r | exact bz_r | omega | (constructor <;> omega) | exact hM _ | exact hPo _ | exact hTa _ | exact hRo _) (by first | assumption | exact b01_r | exact bz_r | omega | (constructor <;> omega) | exact hM _ | exact hPo _ | exact hTa _ | exact hRo _) (by first | assumption | exact b01_r | exact bz_r | omega | (constructor <;> omega) | exact hM _ | exact hPo _ | exact hTa _ | exact hRo _) (by omega) ?_
            refine r_istore_n (pc := 78) dX11_lastOf_78 (Nat.le_of_ble_eq_true rfl) ?_
            dsimp only [lsSt, List.set, mLs, mEnt]
            refine rj_iinc (pc := 79) dX11_lastOf_79 (Nat.le_of_ble_eq_true rfl) rfl ?_
            dsimp only [lsSt, List.set, mLs, mEnt]
            refine r_goto (pc := 82) (tgt := 8) dX11_lastOf_82 (by decide) ?_
            have z := ih (t + 1) ((t : Int), m (260 + 14 * t)) (by omega) (hM _)
            rw [loT, if_pos ⟨by simp only [heldB, decide_eq_true_eq]; rw [n_held] at c_25; exact c_25, c_41, c_57⟩]
            exact z
          · refine r_goto (pc := 60) (tgt := 79) dX11_lastOf_60 (by decide) ?_
            refine rj_iinc (pc := 79) dX11_lastOf_79 (Nat.le_of_ble_eq_true rfl) rfl ?_
            dsimp only [lsSt, List.set, mLs, mEnt]
            refine r_goto (pc := 82) (tgt := 8) dX11_lastOf_82 (by decide) ?_
            have z := ih (t + 1) r (by omega) hr
            rw [loT, if_neg (fun g => c_57 g.2.2)]
            exact z
set_option maxHeartbeats 4000000 in
set_option maxRecDepth 100000 in
theorem m_lastOf {G : mG} {l : Launch} (d : Nat) {h : mH} {x s : Nat} {f4 f6 f8 f9 f10 f11 f12 f13 f14 f16 f18 : Int} {m kp was pool tape pln pap rwd rw : Nat → Int}(hB : isM h x (mFs x f4 f6 f8 f9 f10 f11 f12 f13 f14 f16 f18 s) m kp was pool tape pln pap rwd rw) (hM : ∀ q, InR (m q)) {N C : Nat} (hN : m 1 = (N : Int)) (hcap : N ≤ 90) (hC : m 0 = (C : Int)) (hC1 : 1 ≤ C) (hC2 : C ≤ 60) {a : Int} (ha : InR a) : RUNM G l (d + 3) mX11_lastOf [.ref x, .int (J a)] h (fun v h' => v = some (.int (J (lastM m a N C))) ∧ h' = h) := by
  refine RUNM.of (by decide +kernel) (Nat.le_of_ble_eq_true rfl) ?_
  refine rj_bipush (pc := 0) dX11_lastOf_0 (by decide +kernel) ?_
  refine r_istore_n (pc := 2) dX11_lastOf_2 (Nat.le_of_ble_eq_true rfl) ?_
  dsimp only [lsSt, List.set, mLs, mEnt]
  refine rj_iconst (pc := 3) dX11_lastOf_3 ?_
  refine r_istore_n (pc := 4) dX11_lastOf_4 (Nat.le_of_ble_eq_true rfl) ?_
  dsimp only [lsSt, List.set, mLs, mEnt]
  refine rj_iconst (pc := 5) dX11_lastOf_5 ?_
  refine r_istore (pc := 6) dX11_lastOf_6 (Nat.le_of_ble_eq_true rfl) ?_
  dsimp only [lsSt, List.set, mLs, mEnt]
  exact L_lastT d hB hM hN hcap hC hC1 hC2 ha N 0 (-5, -1) (by omega) (by decide)
abbrev aheadP (m : Nat → Int) (a b : Nat) : Prop := m (1609 + 72 * b) < m (1609 + 72 * a) ∨ (m (1609 + 72 * a) = m (1609 + 72 * b) ∧ (m (1613 + 72 * a) < m (1613 + 72 * b) ∨ (m (1613 + 72 * a) = m (1613 + 72 * b) ∧ a < b)))
set_option maxHeartbeats 4000000 in
set_option maxRecDepth 100000 in
theorem m_isAhead {G : mG} {l : Launch} (d : Nat) {h : mH} {x s : Nat} {f4 f6 f8 f9 f10 f11 f12 f13 f14 f16 f18 : Int} {m kp was pool tape pln pap rwd rw : Nat → Int}(hB : isM h x (mFs x f4 f6 f8 f9 f10 f11 f12 f13 f14 f16 f18 s) m kp was pool tape pln pap rwd rw) (hM : ∀ q, InR (m q)) {a b : Nat} (ha : a ≤ 9) (hb : b ≤ 9) (hpa : -99 ≤ m (1609 + 72 * a) ∧ m (1609 + 72 * a) ≤ 99) (hpb : -99 ≤ m (1609 + 72 * b) ∧ m (1609 + 72 * b) ≤ 99) : RUNM G l (d + 1) mX11_isAhead [.ref x, .int (J (a : Int)), .int (J (b : Int))] h (fun v h' => v = some (.int (J (b01 (aheadP m a b)))) ∧ h' = h) := by
  dsimp only [mFs] at hB
  refine RUNM.of (by decide +kernel) (Nat.le_of_ble_eq_true rfl) ?_
  refine r_aload_n (pc := 0) dX11_isAhead_0 rfl (by first | rfl | exact isRefV_rf _) ?_
  refine rm_getf (pc := 1) dX11_isAhead_1 fX11_11 (by assumption) rfl ?_
  refine r_iload_n (pc := 4) dX11_isAhead_4 rfl ?_
  refine rj_iconst (pc := 5) dX11_isAhead_5 ?_
  refine rj_iconst (pc := 6) dX11_isAhead_6 ?_
  refine r_callS3 (pc := 7) dX11_isAhead_7 qX11_ofTask kX11_58 sX11_ofTask (Nat.le_of_ble_eq_true rfl) (m_ofTask d) (fun v_7 h_7 q_7 => ?_)
  obtain ⟨rfl, rfl⟩ := q_7
  refine rj_iald (pc := 10) (j := 1609 + 72 * a) dX11_isAhead_10 (by first | exact isM.g0 (by assumption) | exact isM.g3 (by assumption) | exact isM.g4 (by assumption) | exact isM.g8 (by assumption) | exact isM.g7 (by assumption) | exact isM.g6 (by assumption) | exact isM.g5 (by assumption) | exact isM.g1 (by assumption) | exact isM.g2 (by assumption)) (by first | assumption | exact b01_r | exact bz_r | omega | (constructor <;> omega) | exact hM _ | exact hPo _ | exact hTa _ | exact hRo _) (by first | assumption | exact b01_r | exact bz_r | omega | (constructor <;> omega) | exact hM _ | exact hPo _ | exact hTa _ | exact hRo _) (by first | assumption | exact b01_r | exact bz_r | omega | (constructor <;> omega) | exact hM _ | exact hPo _ | exact hTa _ | exact hRo _) (by omega) ?_
  refine r_aload_n (pc := 11) dX11_isAhead_11 rfl (by first | rfl | exact isRefV_rf _) ?_
  refine rm_getf (pc := 12) dX11_isAhead_12 fX11_11 (by assumption) rfl ?_
  refine r_iload_n (pc := 15) dX11_isAhead_15 rfl ?_
  refine rj_iconst (pc := 16) dX11_isAhead_16 ?_
  refine rj_iconst (pc := 17) dX11_isAhead_17 ?_
  refine r_callS3 (pc := 18) dX11_isAhead_18 qX11_ofTask kX11_58 sX11_ofTask (Nat.le_of_ble_eq_true rfl) (m_ofTask d) (fun v_18 h_18 q_18 => ?_)
  obtain ⟨rfl, rfl⟩ := q_18
  refine rj_iald (pc := 21) (j := 1609 + 72 * b) dX11_isAhead_21 (by first | exact isM.g0 (by assumption) | exact isM.g3 (by assumption) | exact isM.g4 (by assumption) | exact isM.g8 (by assumption) | exact isM.g7 (by assumption) | exact isM.g6 (by assumption) | exact isM.g5 (by assumption) | exact isM.g1 (by assumption) | exact isM.g2 (by assumption)) (by first | assumption | exact b01_r | exact bz_r | omega | (constructor <;> omega) | exact hM _ | exact hPo _ | exact hTa _ | exact hRo _) (by first | assumption | exact b01_r | exact bz_r | omega | (constructor <;> omega) | exact hM _ | exact hPo _ | exact hTa _ | exact hRo _) (by first | assumption | exact b01_r | exact bz_r | omega | (constructor <;> omega) | exact hM _ | exact hPo _ | exact hTa _ | exact hRo _) (by omega) ?_
  refine rj_isub (pc := 22) dX11_isAhead_22 ?_
  refine r_istore_n (pc := 23) dX11_isAhead_23 (Nat.le_of_ble_eq_true rfl) ?_
  dsimp only [lsSt, List.set, mLs, mEnt]
  refine r_iload_n (pc := 24) dX11_isAhead_24 rfl ?_
  refine rj_if_eq (pc := 25) (tgt := 38) dX11_isAhead_25 (by decide) (by first | assumption | exact b01_r | exact bz_r | omega | (constructor <;> omega) | exact hM _ | exact hPo _ | exact hTa _ | exact hRo _) (fun c_25 => ?_) (fun c_25 => ?_)
  · try simp only [b01_0, bz_0, Classical.not_not] at c_25
    refine r_aload_n (pc := 38) dX11_isAhead_38 rfl (by first | rfl | exact isRefV_rf _) ?_
    refine rm_getf (pc := 39) dX11_isAhead_39 fX11_11 (by assumption) rfl ?_
    refine r_iload_n (pc := 42) dX11_isAhead_42 rfl ?_
    refine rj_iconst (pc := 43) dX11_isAhead_43 ?_
    refine rj_iconst (pc := 44) dX11_isAhead_44 ?_
    refine r_callS3 (pc := 45) dX11_isAhead_45 qX11_ofTask kX11_58 sX11_ofTask (Nat.le_of_ble_eq_true rfl) (m_ofTask d) (fun v_45 h_45 q_45 => ?_)
    obtain ⟨rfl, rfl⟩ := q_45
    refine rj_iald (pc := 48) (j := 1613 + 72 * a) dX11_isAhead_48 (by first | exact isM.g0 (by assumption) | exact isM.g3 (by assumption) | exact isM.g4 (by assumption) | exact isM.g8 (by assumption) | exact isM.g7 (by assumption) | exact isM.g6 (by assumption) | exact isM.g5 (by assumption) | exact isM.g1 (by assumption) | exact isM.g2 (by assumption)) (by first | assumption | exact b01_r | exact bz_r | omega | (constructor <;> omega) | exact hM _ | exact hPo _ | exact hTa _ | exact hRo _) (by first | assumption | exact b01_r | exact bz_r | omega | (constructor <;> omega) | exact hM _ | exact hPo _ | exact hTa _ | exact hRo _) (by first | assumption | exact b01_r | exact bz_r | omega | (constructor <;> omega) | exact hM _ | exact hPo _ | exact hTa _ | exact hRo _) (by omega) ?_
    refine r_aload_n (pc := 49) dX11_isAhead_49 rfl (by first | rfl | exact isRefV_rf _) ?_
    refine rm_getf (pc := 50) dX11_isAhead_50 fX11_11 (by assumption) rfl ?_
    refine r_iload_n (pc := 53) dX11_isAhead_53 rfl ?_
    refine rj_iconst (pc := 54) dX11_isAhead_54 ?_
    refine rj_iconst (pc := 55) dX11_isAhead_55 ?_
    refine r_callS3 (pc := 56) dX11_isAhead_56 qX11_ofTask kX11_58 sX11_ofTask (Nat.le_of_ble_eq_true rfl) (m_ofTask d) (fun v_56 h_56 q_56 => ?_)
    obtain ⟨rfl, rfl⟩ := q_56
    refine rj_iald (pc := 59) (j := 1613 + 72 * b) dX11_isAhead_59 (by first | exact isM.g0 (by assumption) | exact isM.g3 (by assumption) | exact isM.g4 (by assumption) | exact isM.g8 (by assumption) | exact isM.g7 (by assumption) | exact isM.g6 (by assumption) | exact isM.g5 (by assumption) | exact isM.g1 (by assumption) | exact isM.g2 (by assumption)) (by first | assumption | exact b01_r | exact bz_r | omega | (constructor <;> omega) | exact hM _ | exact hPo _ | exact hTa _ | exact hRo _) (by first | assumption | exact b01_r | exact bz_r | omega | (constructor <;> omega) | exact hM _ | exact hPo _ | exact hTa _ | exact hRo _) (by first | assumption | exact b01_r | exact bz_r | omega | (constructor <;> omega) | exact hM _ | exact hPo _ | exact hTa _ | exact hRo _) (by omega) ?_
    refine rj_icmp_eq (pc := 60) (tgt := 96) dX11_isAhead_60 (by decide) (by first | assumption | exact b01_r | exact bz_r | omega | (constructor <;> omega) | exact hM _ | exact hPo _ | exact hTa _ | exact hRo _) (by first | assumption | exact b01_r | exact bz_r | omega | (constructor <;> omega) | exact hM _ | exact hPo _ | exact hTa _ | exact hRo _) (fun c_60 => ?_) (fun c_60 => ?_)
    · refine r_iload_n (pc := 96) dX11_isAhead_96 rfl ?_
      refine r_iload_n (pc := 97) dX11_isAhead_97 rfl ?_
      refine rj_icmp_ge (pc := 98) (tgt := 105) dX11_isAhead_98 (by decide) (by first | assumption | exact b01_r | exact bz_r | omega | (constructor <;> omega) | exact hM _ | exact hPo _ | exact hTa _ | exact hRo _) (by first | assumption | exact b01_r | exact bz_r | omega | (constructor <;> omega) | exact hM _ | exact hPo _ | exact hTa _ | exact hRo _) (fun c_98 => ?_) (fun c_98 => ?_)
      · refine rj_iconst (pc := 105) dX11_isAhead_105 ?_
        refine r_ireturn (pc := 106) .boolean dX11_isAhead_106 rfl (by first | exact nar_J0 | exact nar_J1 | exact nar_b01 | exact nar_bz) ?_
        first
        | exact ⟨vt (by omega), rfl⟩
        | exact ⟨vf (by omega), rfl⟩
      · refine rj_iconst (pc := 101) dX11_isAhead_101 ?_
        refine r_goto (pc := 102) (tgt := 106) dX11_isAhead_102 (by decide) ?_
        refine r_ireturn (pc := 106) .boolean dX11_isAhead_106 rfl (by first | exact nar_J0 | exact nar_J1 | exact nar_b01 | exact nar_bz) ?_
        first
        | exact ⟨vt (by omega), rfl⟩
        | exact ⟨vf (by omega), rfl⟩
    · refine r_aload_n (pc := 63) dX11_isAhead_63 rfl (by first | rfl | exact isRefV_rf _) ?_
      refine rm_getf (pc := 64) dX11_isAhead_64 fX11_11 (by assumption) rfl ?_
      refine r_iload_n (pc := 67) dX11_isAhead_67 rfl ?_
      refine rj_iconst (pc := 68) dX11_isAhead_68 ?_
      refine rj_iconst (pc := 69) dX11_isAhead_69 ?_
      refine r_callS3 (pc := 70) dX11_isAhead_70 qX11_ofTask kX11_58 sX11_ofTask (Nat.le_of_ble_eq_true rfl) (m_ofTask d) (fun v_70 h_70 q_70 => ?_)
      obtain ⟨rfl, rfl⟩ := q_70
      refine rj_iald (pc := 73) (j := 1613 + 72 * a) dX11_isAhead_73 (by first | exact isM.g0 (by assumption) | exact isM.g3 (by assumption) | exact isM.g4 (by assumption) | exact isM.g8 (by assumption) | exact isM.g7 (by assumption) | exact isM.g6 (by assumption) | exact isM.g5 (by assumption) | exact isM.g1 (by assumption) | exact isM.g2 (by assumption)) (by first | assumption | exact b01_r | exact bz_r | omega | (constructor <;> omega) | exact hM _ | exact hPo _ | exact hTa _ | exact hRo _) (by first | assumption | exact b01_r | exact bz_r | omega | (constructor <;> omega) | exact hM _ | exact hPo _ | exact hTa _ | exact hRo _) (by first | assumption | exact b01_r | exact bz_r | omega | (constructor <;> omega) | exact hM _ | exact hPo _ | exact hTa _ | exact hRo _) (by omega) ?_
      refine r_aload_n (pc := 74) dX11_isAhead_74 rfl (by first | rfl | exact isRefV_rf _) ?_
      refine rm_getf (pc := 75) dX11_isAhead_75 fX11_11 (by assumption) rfl ?_
      refine r_iload_n (pc := 78) dX11_isAhead_78 rfl ?_
      refine rj_iconst (pc := 79) dX11_isAhead_79 ?_
      refine rj_iconst (pc := 80) dX11_isAhead_80 ?_
      refine r_callS3 (pc := 81) dX11_isAhead_81 qX11_ofTask kX11_58 sX11_ofTask (Nat.le_of_ble_eq_true rfl) (m_ofTask d) (fun v_81 h_81 q_81 => ?_)
      obtain ⟨rfl, rfl⟩ := q_81
      refine rj_iald (pc := 84) (j := 1613 + 72 * b) dX11_isAhead_84 (by first | exact isM.g0 (by assumption) | exact isM.g3 (by assumption) | exact isM.g4 (by assumption) | exact isM.g8 (by assumption) | exact isM.g7 (by assumption) | exact isM.g6 (by assumption) | exact isM.g5 (by assumption) | exact isM.g1 (by assumption) | exact isM.g2 (by assumption)) (by first | assumption | exact b01_r | exact bz_r | omega | (constructor <;> omega) | exact hM _ | exact hPo _ | exact hTa _ | exact hRo _) (by first | assumption | exact b01_r | exact bz_r | omega | (constructor <;> omega) | exact hM _ | exact hPo _ | exact hTa _ | exact hRo _) (by first | assumption | exact b01_r | exact bz_r | omega | (constructor <;> omega) | exact hM _ | exact hPo _ | exact hTa _ | exact hRo _) (by omega) ?_
      refine rj_icmp_ge (pc := 85) (tgt := 92) dX11_isAhead_85 (by decide) (by first | assumption | exact b01_r | exact bz_r | omega | (constructor <;> omega) | exact hM _ | exact hPo _ | exact hTa _ | exact hRo _) (by first | assumption | exact b01_r | exact bz_r | omega | (constructor <;> omega) | exact hM _ | exact hPo _ | exact hTa _ | exact hRo _) (fun c_85 => ?_) (fun c_85 => ?_)
      · refine rj_iconst (pc := 92) dX11_isAhead_92 ?_
        refine r_goto (pc := 93) (tgt := 106) dX11_isAhead_93 (by decide) ?_
        refine r_ireturn (pc := 106) .boolean dX11_isAhead_106 rfl (by first | exact nar_J0 | exact nar_J1 | exact nar_b01 | exact nar_bz) ?_
        first
        | exact ⟨vt (by omega), rfl⟩
        | exact ⟨vf (by omega), rfl⟩
      · refine rj_iconst (pc := 88) dX11_isAhead_88 ?_
        refine r_goto (pc := 89) (tgt := 106) dX11_isAhead_89 (by decide) ?_
        refine r_ireturn (pc := 106) .boolean dX11_isAhead_106 rfl (by first | exact nar_J0 | exact nar_J1 | exact nar_b01 | exact nar_bz) ?_
        first
        | exact ⟨vt (by omega), rfl⟩
        | exact ⟨vf (by omega), rfl⟩
  · try simp only [b01_0, bz_0, Classical.not_not] at c_25
    refine r_iload_n (pc := 28) dX11_isAhead_28 rfl ?_
    refine rj_if_le (pc := 29) (tgt := 36) dX11_isAhead_29 (by decide) (by first | assumption | exact b01_r | exact bz_r | omega | (constructor <;> omega) | exact hM _ | exact hPo _ | exact hTa _ | exact hRo _) (fun c_29 => ?_) (fun c_29 => ?_)
    · refine rj_iconst (pc := 36) dX11_isAhead_36 ?_
      refine r_ireturn (pc := 37) .boolean dX11_isAhead_37 rfl (by first | exact nar_J0 | exact nar_J1 | exact nar_b01 | exact nar_bz) ?_
      first
      | exact ⟨vt (by omega), rfl⟩
      | exact ⟨vf (by omega), rfl⟩
    · refine rj_iconst (pc := 32) dX11_isAhead_32 ?_
      refine r_goto (pc := 33) (tgt := 37) dX11_isAhead_33 (by decide) ?_
      refine r_ireturn (pc := 37) .boolean dX11_isAhead_37 rfl (by first | exact nar_J0 | exact nar_J1 | exact nar_b01 | exact nar_bz) ?_
      first
      | exact ⟨vt (by omega), rfl⟩
      | exact ⟨vf (by omega), rfl⟩
def nxL (m : Nat → Int) : Nat → Nat → Int → Int
  | 0, _, f => f
  | n + 1, t, f => nxL m n (t + 1) (if readyB m t = true ∧ (f < 0 ∨ aheadP m t f.toNat) then (t : Int) else f)
set_option maxHeartbeats 4000000 in
set_option maxRecDepth 100000 in
theorem L_next {G : mG} {l : Launch} (d : Nat) {h : mH} {x s : Nat} {f4 f6 f8 f9 f10 f11 f12 f13 f14 f16 f18 : Int} {m kp was pool tape pln pap rwd rw : Nat → Int}(hB : isM h x (mFs x f4 f6 f8 f9 f10 f11 f12 f13 f14 f16 f18 s) m kp was pool tape pln pap rwd rw) (hM : ∀ q, InR (m q)) {N : Nat} (hN : m 3 = (N : Int)) (hcap : N ≤ 10) (hP : ∀ t, t < N → -99 ≤ m (1609 + 72 * t) ∧ m (1609 + 72 * t) ≤ 99) : ∀ (n t : Nat) (f : Int), t + n = N → f < t → -5 ≤ f → RUN G l (d + 3) mX11_next 5 [some (.ref x), some (.int (J f)), some (.int (J (t : Int)))] [] h (fun v h' => v = some (.int (J (nxL m n t f))) ∧ h' = h) := by
  dsimp only [mFs] at hB
  have r1 := hM 3
  intro n
  induction n with
  | zero =>
    intro t f ht hf hf2
    refine r_iload_n (pc := 5) dX11_next_5 rfl ?_
    refine r_aload_n (pc := 6) dX11_next_6 rfl (by first | rfl | exact isRefV_rf _) ?_
    refine rm_getf (pc := 7) dX11_next_7 fX11_11 (by assumption) rfl ?_
    refine rj_iconst (pc := 10) dX11_next_10 ?_
    refine rj_iald (pc := 11) (j := 3) dX11_next_11 (by first | exact isM.g0 (by assumption) | exact isM.g3 (by assumption) | exact isM.g4 (by assumption) | exact isM.g8 (by assumption) | exact isM.g7 (by assumption) | exact isM.g6 (by assumption) | exact isM.g5 (by assumption) | exact isM.g1 (by assumption) | exact isM.g2 (by assumption)) (by first | assumption | exact b01_r | exact bz_r | omega | (constructor <;> omega) | exact hM _ | exact hPo _ | exact hTa _ | exact hRo _) (by first | assumption | exact b01_r | exact bz_r | omega | (constructor <;> omega) | exact hM _ | exact hPo _ | exact hTa _ | exact hRo _) (by first | assumption | exact b01_r | exact bz_r | omega | (constructor <;> omega) | exact hM _ | exact hPo _ | exact hTa _ | exact hRo _) rfl ?_
    refine rj_icmp_ge (pc := 12) (tgt := 44) dX11_next_12 (by decide) (by first | assumption | exact b01_r | exact bz_r | omega | (constructor <;> omega) | exact hM _ | exact hPo _ | exact hTa _ | exact hRo _) (by first | assumption | exact b01_r | exact bz_r | omega | (constructor <;> omega) | exact hM _ | exact hPo _ | exact hTa _ | exact hRo _) (fun c_12 => ?_) (fun c_12 => ?_)
    · refine r_iload_n (pc := 44) dX11_next_44 rfl ?_
      refine r_ireturn (pc := 45) .int dX11_next_45 rfl (by first | rfl | assumption) ?_
      exact ⟨rfl, rfl⟩
    · exfalso; omega
  | succ n ih =>
    intro t f ht hf hf2
    refine r_iload_n (pc := 5) dX11_next_5 rfl ?_
    refine r_aload_n (pc := 6) dX11_next_6 rfl (by first | rfl | exact isRefV_rf _) ?_
    refine rm_getf (pc := 7) dX11_next_7 fX11_11 (by assumption) rfl ?_
    refine rj_iconst (pc := 10) dX11_next_10 ?_
    refine rj_iald (pc := 11) (j := 3) dX11_next_11 (by first | exact isM.g0 (by assumption) | exact isM.g3 (by assumption) | exact isM.g4 (by assumption) | exact isM.g8 (by assumption) | exact isM.g7 (by assumption) | exact isM.g6 (by assumption) | exact isM.g5 (by assumption) | exact isM.g1 (by assumption) | exact isM.g2 (by assumption)) (by first | assumption | exact b01_r | exact bz_r | omega | (constructor <;> omega) | exact hM _ | exact hPo _ | exact hTa _ | exact hRo _) (by first | assumption | exact b01_r | exact bz_r | omega | (constructor <;> omega) | exact hM _ | exact hPo _ | exact hTa _ | exact hRo _) (by first | assumption | exact b01_r | exact bz_r | omega | (constructor <;> omega) | exact hM _ | exact hPo _ | exact hTa _ | exact hRo _) rfl ?_
    refine rj_icmp_ge (pc := 12) (tgt := 44) dX11_next_12 (by decide) (by first | assumption | exact b01_r | exact bz_r | omega | (constructor <;> omega) | exact hM _ | exact hPo _ | exact hTa _ | exact hRo _) (by first | assumption | exact b01_r | exact bz_r | omega | (constructor <;> omega) | exact hM _ | exact hPo _ | exact hTa _ | exact hRo _) (fun c_12 => ?_) (fun c_12 => ?_)
    · refine r_iload_n (pc := 44) dX11_next_44 rfl ?_
      refine r_ireturn (pc := 45) .int dX11_next_45 rfl (by first | rfl | assumption) ?_
      exfalso; omega
    · refine r_aload_n (pc := 15) dX11_next_15 rfl (by first | rfl | exact isRefV_rf _) ?_
      refine r_iload_n (pc := 16) dX11_next_16 rfl ?_
      refine r_callV1 (pc := 17) dX11_next_17 qX11_isReady kX11_183 vX11_isReady (by exact isM.gx (by assumption)) rfl rfl (Nat.le_of_ble_eq_true rfl) (m_isReady (d + 1) hB hM (by omega) (by omega)) (fun v_17 h_17 q_17 => ?_)
      obtain ⟨rfl, rfl⟩ := q_17
      refine rj_if_eq (pc := 20) (tgt := 38) dX11_next_20 (by decide) (by first | assumption | exact b01_r | exact bz_r | omega | (constructor <;> omega) | exact hM _ | exact hPo _ | exact hTa _ | exact hRo _) (fun c_20 => ?_) (fun c_20 => ?_)
      · try simp only [b01_0, bz_0, Classical.not_not] at c_20
        refine rj_iinc (pc := 38) dX11_next_38 (Nat.le_of_ble_eq_true rfl) rfl ?_
        dsimp only [lsSt, List.set, mLs, mEnt]
        refine r_goto (pc := 41) (tgt := 5) dX11_next_41 (by decide) ?_
        have z := ih (t + 1) f (by omega) (by omega) hf2
        rw [nxL, if_neg (fun g => c_20 (by have := g.1; simp only [readyB, decide_eq_true_eq] at this; rw [n_ready]; exact this))]
        exact z
      · try simp only [b01_0, bz_0, Classical.not_not] at c_20
        refine r_iload_n (pc := 23) dX11_next_23 rfl ?_
        refine rj_if_lt (pc := 24) (tgt := 36) dX11_next_24 (by decide) (by first | assumption | exact b01_r | exact bz_r | omega | (constructor <;> omega) | exact hM _ | exact hPo _ | exact hTa _ | exact hRo _) (fun c_24 => ?_) (fun c_24 => ?_)
        · refine r_iload_n (pc := 36) dX11_next_36 rfl ?_
          refine r_istore_n (pc := 37) dX11_next_37 (Nat.le_of_ble_eq_true rfl) ?_
          dsimp only [lsSt, List.set, mLs, mEnt]
          refine rj_iinc (pc := 38) dX11_next_38 (Nat.le_of_ble_eq_true rfl) rfl ?_
          dsimp only [lsSt, List.set, mLs, mEnt]
          refine r_goto (pc := 41) (tgt := 5) dX11_next_41 (by decide) ?_
          have z := ih (t + 1) (t : Int) (by omega) (by omega) (by omega)
          rw [nxL, if_pos ⟨by simp only [readyB, decide_eq_true_eq]; rw [n_ready] at c_20; exact c_20, Or.inl c_24⟩]
          exact z
        · refine r_aload_n (pc := 27) dX11_next_27 rfl (by first | rfl | exact isRefV_rf _) ?_
          refine r_iload_n (pc := 28) dX11_next_28 rfl ?_
          refine r_iload_n (pc := 29) dX11_next_29 rfl ?_
          refine r_callV2 (pc := 30) dX11_next_30 qX11_isAhead kX11_201 vX11_isAhead (by exact isM.gx (by assumption)) rfl rfl (Nat.le_of_ble_eq_true rfl) (by rw [show f = ((f.toNat : Nat) : Int) by omega]; exact m_isAhead (d + 1) hB hM (a := t) (b := f.toNat) (by omega) (by omega) (hP t (by omega)) (hP _ (by omega))) (fun v_30 h_30 q_30 => ?_)
          obtain ⟨rfl, rfl⟩ := q_30
          refine rj_if_eq (pc := 33) (tgt := 38) dX11_next_33 (by decide) (by first | assumption | exact b01_r | exact bz_r | omega | (constructor <;> omega) | exact hM _ | exact hPo _ | exact hTa _ | exact hRo _) (fun c_33 => ?_) (fun c_33 => ?_)
          · try simp only [b01_0, bz_0, Classical.not_not] at c_33
            refine rj_iinc (pc := 38) dX11_next_38 (Nat.le_of_ble_eq_true rfl) rfl ?_
            dsimp only [lsSt, List.set, mLs, mEnt]
            refine r_goto (pc := 41) (tgt := 5) dX11_next_41 (by decide) ?_
            have z := ih (t + 1) f (by omega) (by omega) hf2
            rw [nxL, if_neg (fun g => g.2.elim c_24 c_33)]
            exact z
          · try simp only [b01_0, bz_0, Classical.not_not] at c_33
            refine r_iload_n (pc := 36) dX11_next_36 rfl ?_
            refine r_istore_n (pc := 37) dX11_next_37 (Nat.le_of_ble_eq_true rfl) ?_
            dsimp only [lsSt, List.set, mLs, mEnt]
            refine rj_iinc (pc := 38) dX11_next_38 (Nat.le_of_ble_eq_true rfl) rfl ?_
            dsimp only [lsSt, List.set, mLs, mEnt]
            refine r_goto (pc := 41) (tgt := 5) dX11_next_41 (by decide) ?_
            have z := ih (t + 1) (t : Int) (by omega) (by omega) (by omega)
            rw [nxL, if_pos ⟨by simp only [readyB, decide_eq_true_eq]; rw [n_ready] at c_20; exact c_20, Or.inr c_33⟩]
            exact z
set_option maxHeartbeats 4000000 in
set_option maxRecDepth 100000 in
theorem m_next {G : mG} {l : Launch} (d : Nat) {h : mH} {x s : Nat} {f4 f6 f8 f9 f10 f11 f12 f13 f14 f16 f18 : Int} {m kp was pool tape pln pap rwd rw : Nat → Int}(hB : isM h x (mFs x f4 f6 f8 f9 f10 f11 f12 f13 f14 f16 f18 s) m kp was pool tape pln pap rwd rw) (hM : ∀ q, InR (m q)) {N : Nat} (hN : m 3 = (N : Int)) (hcap : N ≤ 10) (hP : ∀ t, t < N → -99 ≤ m (1609 + 72 * t) ∧ m (1609 + 72 * t) ≤ 99) : RUNM G l (d + 3) mX11_next [.ref x] h (fun v h' => v = some (.int (J (nxL m N 0 (-5)))) ∧ h' = h) := by
  refine RUNM.of (by decide +kernel) (Nat.le_of_ble_eq_true rfl) ?_
  refine rj_bipush (pc := 0) dX11_next_0 (by decide +kernel) ?_
  refine r_istore_n (pc := 2) dX11_next_2 (Nat.le_of_ble_eq_true rfl) ?_
  dsimp only [lsSt, List.set, mLs, mEnt]
  refine rj_iconst (pc := 3) dX11_next_3 ?_
  refine r_istore_n (pc := 4) dX11_next_4 (Nat.le_of_ble_eq_true rfl) ?_
  dsimp only [lsSt, List.set, mLs, mEnt]
  exact L_next d hB hM hN hcap hP N 0 (-5) (by omega) (by decide) (by decide)

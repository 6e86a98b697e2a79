set_option maxHeartbeats 4000000 in
set_option maxRecDepth 100000 in
theorem L_taken {G : mG} {l : Launch} (d : Nat) {h : mH} {x s : Nat} {f4 f6 f8 f9 f10 f11 f12 f13 f14 f16 f18 : Int} {m kp was pool tape pln pap rwd rw : Nat → Int}(hB : isM h x (mFs x f4 f6 f8 f9 f10 f11 f12 f13 f14 f16 f18 s) m kp was pool tape pln pap rwd rw) (hM : ∀ q, InR (m q)) (hPo : ∀ q, InR (pool q)) {N : Nat} (hN : m 1 = (N : Int)) (hcap : N ≤ 90) (hC : 0 ≤ m 0 ∧ m 0 ≤ 60) (h7 : ∀ t, t < N → m (261 + 14 * t) ≤ 7) {p n : Nat} {a : Int} (ha : InR a) {e : Nat} (he : p ≤ e) (he2 : e ≤ p + 7) (hp : p + 8 ≤ 12342) (hN2 : N ≠ 90) {F : Int} : ∀ (n to : Nat) (u : Int), brStop pool n to u → to + n ≤ 12341 → -20000 ≤ u - n → u + n ≤ 20000 → RUN G l (d + 4) mX11_taken 76 [some (.ref x), some (.int (J (p : Int))), some (.int (J a)), some (.int (J (e : Int))), some (.int (J F)), some (.int (J (to : Int))), some (.int (J u))] [] h (fun v h' => v = some (.int (J 0)) ∧ isM h' x (mFs x f4 f6 f8 f9 f10 f11 f12 f13 f14 f16 f18 s) (takesM m pool N a p e F ((brL pool (n + 1) to u : Int) + -1)) kp was pool tape pln pap rwd rw ∧ Same (mBlk x) h h') := by
  have hB0 := hB
  dsimp only [mFs] at hB
  intro n
  induction n with
  | zero =>
    intro to u hs h1 h2 h3
    unfold brStop at hs
    refine r_iload (pc := 76) dX11_taken_76 rfl ?_
    refine rj_if_le (pc := 78) (tgt := 125) dX11_taken_78 (by decide) (by first | assumption | exact b01_r | exact bz_r | omega | (constructor <;> omega) | exact hM _ | exact hPo _ | exact hTa _ | exact hRo _) (fun c_78 => ?_) (fun c_78 => ?_)
    · refine rj_iinc (pc := 125) dX11_taken_125 (Nat.le_of_ble_eq_true rfl) rfl ?_
      dsimp only [lsSt, List.set, mLs, mEnt]
      refine r_aload_n (pc := 128) dX11_taken_128 rfl (by first | rfl | exact isRefV_rf _) ?_
      refine r_iload_n (pc := 129) dX11_taken_129 rfl ?_
      refine r_aload_n (pc := 130) dX11_taken_130 rfl (by first | rfl | exact isRefV_rf _) ?_
      refine rm_getf (pc := 131) dX11_taken_131 fX11_21 (by assumption) rfl ?_
      refine r_iload_n (pc := 134) dX11_taken_134 rfl ?_
      refine r_iload_n (pc := 135) dX11_taken_135 rfl ?_
      refine r_iload (pc := 136) dX11_taken_136 rfl ?_
      refine r_iload (pc := 138) dX11_taken_138 rfl ?_
      refine r_callV6 (pc := 140) dX11_taken_140 qX11_takes kX11_167 vX11_takes (by exact isM.gx (by assumption)) rfl rfl (Nat.le_of_ble_eq_true rfl) (m_takes (d + 1) hB0 (Or.inr ⟨rfl, rfl, by omega⟩) (by omega) (by omega) hN (by omega)) (fun v_140 h_140 q_140 => ?_)
      obtain ⟨rfl, hB_140, hS_140⟩ := q_140
      refine r_pop (pc := 143) dX11_taken_143 (by first | rfl | (cases ‹Option Nat› <;> rfl)) ?_
      refine rj_iconst (pc := 144) dX11_taken_144 ?_
      refine r_ireturn (pc := 145) .int dX11_taken_145 rfl (by first | rfl | assumption) ?_
      have e1 : brL pool (0 + 1) to u = to := by rw [brL, if_neg (by omega)]
      rw [e1]
      exact ⟨rfl, hB_140, hS_140⟩
    · exact absurd (by omega) hs
  | succ n ih =>
    intro to u hs h1 h2 h3
    unfold brStop at hs
    refine r_iload (pc := 76) dX11_taken_76 rfl ?_
    refine rj_if_le (pc := 78) (tgt := 125) dX11_taken_78 (by decide) (by first | assumption | exact b01_r | exact bz_r | omega | (constructor <;> omega) | exact hM _ | exact hPo _ | exact hTa _ | exact hRo _) (fun c_78 => ?_) (fun c_78 => ?_)
    · refine rj_iinc (pc := 125) dX11_taken_125 (Nat.le_of_ble_eq_true rfl) rfl ?_
      dsimp only [lsSt, List.set, mLs, mEnt]
      refine r_aload_n (pc := 128) dX11_taken_128 rfl (by first | rfl | exact isRefV_rf _) ?_
      refine r_iload_n (pc := 129) dX11_taken_129 rfl ?_
      refine r_aload_n (pc := 130) dX11_taken_130 rfl (by first | rfl | exact isRefV_rf _) ?_
      refine rm_getf (pc := 131) dX11_taken_131 fX11_21 (by assumption) rfl ?_
      refine r_iload_n (pc := 134) dX11_taken_134 rfl ?_
      refine r_iload_n (pc := 135) dX11_taken_135 rfl ?_
      refine r_iload (pc := 136) dX11_taken_136 rfl ?_
      refine r_iload (pc := 138) dX11_taken_138 rfl ?_
      refine r_callV6 (pc := 140) dX11_taken_140 qX11_takes kX11_167 vX11_takes (by exact isM.gx (by assumption)) rfl rfl (Nat.le_of_ble_eq_true rfl) (m_takes (d + 1) hB0 (Or.inr ⟨rfl, rfl, by omega⟩) (by omega) (by omega) hN (by omega)) (fun v_140 h_140 q_140 => ?_)
      obtain ⟨rfl, hB_140, hS_140⟩ := q_140
      refine r_pop (pc := 143) dX11_taken_143 (by first | rfl | (cases ‹Option Nat› <;> rfl)) ?_
      refine rj_iconst (pc := 144) dX11_taken_144 ?_
      refine r_ireturn (pc := 145) .int dX11_taken_145 rfl (by first | rfl | assumption) ?_
      have e1 : brL pool (n + 1 + 1) to u = to := by rw [brL, if_neg (by omega)]
      rw [e1]
      exact ⟨rfl, hB_140, hS_140⟩
    · refine r_iload (pc := 81) dX11_taken_81 rfl ?_
      refine r_aload_n (pc := 83) dX11_taken_83 rfl (by first | rfl | exact isRefV_rf _) ?_
      refine rm_getf (pc := 84) dX11_taken_84 fX11_21 (by assumption) rfl ?_
      refine r_iload (pc := 87) dX11_taken_87 rfl ?_
      refine rj_iald (pc := 89) (j := to) dX11_taken_89 (by first | exact isM.g0 (by assumption) | exact isM.g3 (by assumption) | exact isM.g4 (by assumption) | exact isM.g8 (by assumption) | exact isM.g7 (by assumption) | exact isM.g6 (by assumption) | exact isM.g5 (by assumption) | exact isM.g1 (by assumption) | exact isM.g2 (by assumption)) (by first | assumption | exact b01_r | exact bz_r | omega | (constructor <;> omega) | exact hM _ | exact hPo _ | exact hTa _ | exact hRo _) (by first | assumption | exact b01_r | exact bz_r | omega | (constructor <;> omega) | exact hM _ | exact hPo _ | exact hTa _ | exact hRo _) (by first | assumption | exact b01_r | exact bz_r | omega | (constructor <;> omega) | exact hM _ | exact hPo _ | exact hTa _ | exact hRo _) (by omega) ?_
      refine rj_bipush (pc := 90) dX11_taken_90 (by decide +kernel) ?_
      refine rj_icmp_ne (pc := 92) (tgt := 99) dX11_taken_92 (by decide) (by first | assumption | exact b01_r | exact bz_r | omega | (constructor <;> omega) | exact hM _ | exact hPo _ | exact hTa _ | exact hRo _) (by first | assumption | exact b01_r | exact bz_r | omega | (constructor <;> omega) | exact hM _ | exact hPo _ | exact hTa _ | exact hRo _) (fun c_92 => ?_) (fun c_92 => ?_)
      · refine r_aload_n (pc := 99) dX11_taken_99 rfl (by first | rfl | exact isRefV_rf _) ?_
        refine rm_getf (pc := 100) dX11_taken_100 fX11_21 (by assumption) rfl ?_
        refine r_iload (pc := 103) dX11_taken_103 rfl ?_
        refine rj_iald (pc := 105) (j := to) dX11_taken_105 (by first | exact isM.g0 (by assumption) | exact isM.g3 (by assumption) | exact isM.g4 (by assumption) | exact isM.g8 (by assumption) | exact isM.g7 (by assumption) | exact isM.g6 (by assumption) | exact isM.g5 (by assumption) | exact isM.g1 (by assumption) | exact isM.g2 (by assumption)) (by first | assumption | exact b01_r | exact bz_r | omega | (constructor <;> omega) | exact hM _ | exact hPo _ | exact hTa _ | exact hRo _) (by first | assumption | exact b01_r | exact bz_r | omega | (constructor <;> omega) | exact hM _ | exact hPo _ | exact hTa _ | exact hRo _) (by first | assumption | exact b01_r | exact bz_r | omega | (constructor <;> omega) | exact hM _ | exact hPo _ | exact hTa _ | exact hRo _) (by omega) ?_
        refine rj_bipush (pc := 106) dX11_taken_106 (by decide +kernel) ?_
        refine rj_icmp_ne (pc := 108) (tgt := 115) dX11_taken_108 (by decide) (by first | assumption | exact b01_r | exact bz_r | omega | (constructor <;> omega) | exact hM _ | exact hPo _ | exact hTa _ | exact hRo _) (by first | assumption | exact b01_r | exact bz_r | omega | (constructor <;> omega) | exact hM _ | exact hPo _ | exact hTa _ | exact hRo _) (fun c_108 => ?_) (fun c_108 => ?_)
        · refine rj_iconst (pc := 115) dX11_taken_115 ?_
          refine rj_iadd (pc := 116) dX11_taken_116 ?_
          refine r_istore (pc := 117) dX11_taken_117 (Nat.le_of_ble_eq_true rfl) ?_
          dsimp only [lsSt, List.set, mLs, mEnt]
          refine rj_iinc (pc := 119) dX11_taken_119 (Nat.le_of_ble_eq_true rfl) rfl ?_
          dsimp only [lsSt, List.set, mLs, mEnt]
          refine r_goto (pc := 122) (tgt := 76) dX11_taken_122 (by decide) ?_
          have eb : brk (pool to) = 0 := by unfold brk; rw [if_neg c_92, if_neg c_108]
          have hs2 := hs (by omega)
          rw [eb] at hs2
          have z := ih (to + 1) (u + 0) hs2 (by omega) (by omega) (by omega)
          rw [show brL pool (n + 1 + 1) to u = brL pool (n + 1) (to + 1) (u + 0) by rw [brL, if_pos (by omega), eb]]
          exact z
        · refine rj_iconst (pc := 111) dX11_taken_111 ?_
          refine r_goto (pc := 112) (tgt := 116) dX11_taken_112 (by decide) ?_
          refine rj_iadd (pc := 116) dX11_taken_116 ?_
          refine r_istore (pc := 117) dX11_taken_117 (Nat.le_of_ble_eq_true rfl) ?_
          dsimp only [lsSt, List.set, mLs, mEnt]
          refine rj_iinc (pc := 119) dX11_taken_119 (Nat.le_of_ble_eq_true rfl) rfl ?_
          dsimp only [lsSt, List.set, mLs, mEnt]
          refine r_goto (pc := 122) (tgt := 76) dX11_taken_122 (by decide) ?_
          have eb : brk (pool to) = -1 := by unfold brk; rw [if_neg c_92, if_pos c_108]
          have hs2 := hs (by omega)
          rw [eb] at hs2
          have z := ih (to + 1) (u + -1) hs2 (by omega) (by omega) (by omega)
          rw [show brL pool (n + 1 + 1) to u = brL pool (n + 1) (to + 1) (u + -1) by rw [brL, if_pos (by omega), eb]]
          exact z
      · refine rj_iconst (pc := 95) dX11_taken_95 ?_
        refine r_goto (pc := 96) (tgt := 116) dX11_taken_96 (by decide) ?_
        refine rj_iadd (pc := 116) dX11_taken_116 ?_
        refine r_istore (pc := 117) dX11_taken_117 (Nat.le_of_ble_eq_true rfl) ?_
        dsimp only [lsSt, List.set, mLs, mEnt]
        refine rj_iinc (pc := 119) dX11_taken_119 (Nat.le_of_ble_eq_true rfl) rfl ?_
        dsimp only [lsSt, List.set, mLs, mEnt]
        refine r_goto (pc := 122) (tgt := 76) dX11_taken_122 (by decide) ?_
        have eb : brk (pool to) = 1 := by unfold brk; rw [if_pos c_92]
        have hs2 := hs (by omega)
        rw [eb] at hs2
        have z := ih (to + 1) (u + 1) hs2 (by omega) (by omega) (by omega)
        rw [show brL pool (n + 1 + 1) to u = brL pool (n + 1) (to + 1) (u + 1) by rw [brL, if_pos (by omega), eb]]
        exact z

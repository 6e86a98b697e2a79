section mg_41
set_option maxHeartbeats 4000000 in
set_option maxRecDepth 100000 in
theorem L_faultAt {G : mG} {l : Launch} (d : Nat) {h : mH} {x s : Nat} {f4 f6 f8 f9 f10 f11 f12 f13 f14 f16 f18 : Int} {m kp was pool tape pln pap rwd rw : Nat → Int}(hB : isM h x (mFs x f4 f6 f8 f9 f10 f11 f12 f13 f14 f16 f18 s) m kp was pool tape pln pap rwd rw) (hM : ∀ q, InR (m q)) {N : Nat} (hN : m 4 = (N : Int)) (hcap : N ≤ 120) {t k w : Int} (ht : InR t) (hw : 0 ≤ w ∧ w ≤ 1) : ∀ (n j : Nat) (i : Int), j + n = N → 0 ≤ i → i ≤ 1000 → i < cnt (faultB m t) N - cnt (faultB m t) j → RUN G l (d + 1) mX11_faultAt 69 [some (.ref x), some (.int (J t)), some (.int (J k)), some (.int (J w)), some (.int (J i)), some (.int (J (j : Int)))] [] h (fun v h' => v = some (.int (J (m (2329 + 3 * (faJ m t n j i : Int) + w).toNat))) ∧ h' = h) := by
  dsimp only [mFs] at hB
  intro n
  induction n with
  | zero =>
    intro j i hj h0 h1 h2
    exfalso
    rw [show j = N by omega] at h2
    omega
  | succ n ih =>
    intro j i hj h0 h1 h2
    refine r_aload_n (pc := 69) dX11_faultAt_69 rfl (by first | rfl | exact isRefV_rf _) ?_
    refine rm_getf (pc := 70) dX11_faultAt_70 fX11_11 (by assumption) rfl ?_
    refine rj_sipush (pc := 73) dX11_faultAt_73 (by decide +kernel) ?_
    refine rj_iconst (pc := 76) dX11_faultAt_76 ?_
    refine r_iload (pc := 77) dX11_faultAt_77 rfl ?_
    refine rj_imul (pc := 79) dX11_faultAt_79 ?_
    refine rj_iadd (pc := 80) dX11_faultAt_80 ?_
    refine rj_iald (pc := 81) (j := 2328 + 3 * j) dX11_faultAt_81 (by first | exact isM.g0 (by assumption) | exact isM.g3 (by assumption) | exact isM.g4 (by assumption) | exact isM.g8 (by assumption) | exact isM.g7 (by assumption) | exact isM.g6 (by assumption) | exact isM.g5 (by assumption) | exact isM.g1 (by assumption) | exact isM.g2 (by assumption)) (by first | assumption | exact b01_r | exact bz_r | omega | (constructor <;> omega) | exact hM _ | exact hPo _ | exact hTa _ | exact hRo _) (by first | assumption | exact b01_r | exact bz_r | omega | (constructor <;> omega) | exact hM _ | exact hPo _ | exact hTa _ | exact hRo _) (by first | assumption | exact b01_r | exact bz_r | omega | (constructor <;> omega) | exact hM _ | exact hPo _ | exact hTa _ | exact hRo _) (by omega) ?_
    refine r_iload_n (pc := 82) dX11_faultAt_82 rfl ?_
    refine rj_icmp_ne (pc := 83) (tgt := 91) dX11_faultAt_83 (by decide) (by first | assumption | exact b01_r | exact bz_r | omega | (constructor <;> omega) | exact hM _ | exact hPo _ | exact hTa _ | exact hRo _) (by first | assumption | exact b01_r | exact bz_r | omega | (constructor <;> omega) | exact hM _ | exact hPo _ | exact hTa _ | exact hRo _) (fun c_83 => ?_) (fun c_83 => ?_)
    · refine r_iload (pc := 91) dX11_faultAt_91 rfl ?_
      refine r_aload_n (pc := 93) dX11_faultAt_93 rfl (by first | rfl | exact isRefV_rf _) ?_
      refine rm_getf (pc := 94) dX11_faultAt_94 fX11_11 (by assumption) rfl ?_
      refine rj_sipush (pc := 97) dX11_faultAt_97 (by decide +kernel) ?_
      refine rj_iconst (pc := 100) dX11_faultAt_100 ?_
      refine r_iload (pc := 101) dX11_faultAt_101 rfl ?_
      refine rj_imul (pc := 103) dX11_faultAt_103 ?_
      refine rj_iadd (pc := 104) dX11_faultAt_104 ?_
      refine rj_iald (pc := 105) (j := 2328 + 3 * j) dX11_faultAt_105 (by first | exact isM.g0 (by assumption) | exact isM.g3 (by assumption) | exact isM.g4 (by assumption) | exact isM.g8 (by assumption) | exact isM.g7 (by assumption) | exact isM.g6 (by assumption) | exact isM.g5 (by assumption) | exact isM.g1 (by assumption) | exact isM.g2 (by assumption)) (by first | assumption | exact b01_r | exact bz_r | omega | (constructor <;> omega) | exact hM _ | exact hPo _ | exact hTa _ | exact hRo _) (by first | assumption | exact b01_r | exact bz_r | omega | (constructor <;> omega) | exact hM _ | exact hPo _ | exact hTa _ | exact hRo _) (by first | assumption | exact b01_r | exact bz_r | omega | (constructor <;> omega) | exact hM _ | exact hPo _ | exact hTa _ | exact hRo _) (by omega) ?_
      refine r_iload_n (pc := 106) dX11_faultAt_106 rfl ?_
      refine rj_icmp_ne (pc := 107) (tgt := 114) dX11_faultAt_107 (by decide) (by first | assumption | exact b01_r | exact bz_r | omega | (constructor <;> omega) | exact hM _ | exact hPo _ | exact hTa _ | exact hRo _) (by first | assumption | exact b01_r | exact bz_r | omega | (constructor <;> omega) | exact hM _ | exact hPo _ | exact hTa _ | exact hRo _) (fun c_107 => ?_) (fun c_107 => ?_)
      · refine rj_iconst (pc := 114) dX11_faultAt_114 ?_
        refine rj_isub (pc := 115) dX11_faultAt_115 ?_
        refine r_istore (pc := 116) dX11_faultAt_116 (Nat.le_of_ble_eq_true rfl) ?_
        dsimp only [lsSt, List.set, mLs, mEnt]
        refine rj_iinc (pc := 118) dX11_faultAt_118 (Nat.le_of_ble_eq_true rfl) rfl ?_
        dsimp only [lsSt, List.set, mLs, mEnt]
        refine r_goto (pc := 121) (tgt := 69) dX11_faultAt_121 (by decide) ?_
        have e := cnt_f (p := faultB m t) (n := j) (by simp only [faultB, decide_eq_false_iff_not]; exact c_83)
        have z := ih (j + 1) (i - 0) (by omega) (by omega) (by omega) (by omega)
        rw [faJ, if_neg (fun g => c_83 g.1), if_neg c_83]
        exact z
      · refine rj_iconst (pc := 110) dX11_faultAt_110 ?_
        refine r_goto (pc := 111) (tgt := 115) dX11_faultAt_111 (by decide) ?_
        refine rj_isub (pc := 115) dX11_faultAt_115 ?_
        refine r_istore (pc := 116) dX11_faultAt_116 (Nat.le_of_ble_eq_true rfl) ?_
        dsimp only [lsSt, List.set, mLs, mEnt]
        refine rj_iinc (pc := 118) dX11_faultAt_118 (Nat.le_of_ble_eq_true rfl) rfl ?_
        dsimp only [lsSt, List.set, mLs, mEnt]
        refine r_goto (pc := 121) (tgt := 69) dX11_faultAt_121 (by decide) ?_
        exfalso; omega
    · refine r_iload (pc := 86) dX11_faultAt_86 rfl ?_
      refine rj_if_le (pc := 88) (tgt := 124) dX11_faultAt_88 (by decide) (by first | assumption | exact b01_r | exact bz_r | omega | (constructor <;> omega) | exact hM _ | exact hPo _ | exact hTa _ | exact hRo _) (fun c_88 => ?_) (fun c_88 => ?_)
      · refine r_aload_n (pc := 124) dX11_faultAt_124 rfl (by first | rfl | exact isRefV_rf _) ?_
        refine rm_getf (pc := 125) dX11_faultAt_125 fX11_11 (by assumption) rfl ?_
        refine rj_sipush (pc := 128) dX11_faultAt_128 (by decide +kernel) ?_
        refine rj_iconst (pc := 131) dX11_faultAt_131 ?_
        refine r_iload (pc := 132) dX11_faultAt_132 rfl ?_
        refine rj_imul (pc := 134) dX11_faultAt_134 ?_
        refine rj_iadd (pc := 135) dX11_faultAt_135 ?_
        refine rj_iconst (pc := 136) dX11_faultAt_136 ?_
        refine rj_iadd (pc := 137) dX11_faultAt_137 ?_
        refine r_iload_n (pc := 138) dX11_faultAt_138 rfl ?_
        refine rj_iadd (pc := 139) dX11_faultAt_139 ?_
        refine rj_iald (pc := 140) (j := (2329 + 3 * (j : Int) + w).toNat) dX11_faultAt_140 (by first | exact isM.g0 (by assumption) | exact isM.g3 (by assumption) | exact isM.g4 (by assumption) | exact isM.g8 (by assumption) | exact isM.g7 (by assumption) | exact isM.g6 (by assumption) | exact isM.g5 (by assumption) | exact isM.g1 (by assumption) | exact isM.g2 (by assumption)) (by first | assumption | exact b01_r | exact bz_r | omega | (constructor <;> omega) | exact hM _ | exact hPo _ | exact hTa _ | exact hRo _) (by first | assumption | exact b01_r | exact bz_r | omega | (constructor <;> omega) | exact hM _ | exact hPo _ | exact hTa _ | exact hRo _) (by first | assumption | exact b01_r | exact bz_r | omega | (constructor <;> omega) | exact hM _ | exact hPo _ | exact hTa _ | exact hRo _) (by omega) ?_
        refine r_ireturn (pc := 141) .int dX11_faultAt_141 rfl (by first | rfl | assumption) ?_
        have e1 : faJ m t (n + 1) j i = j := by rw [faJ, if_pos ⟨c_83, c_88⟩]
        rw [e1]
        exact ⟨rfl, rfl⟩
      · refine r_iload (pc := 91) dX11_faultAt_91 rfl ?_
        refine r_aload_n (pc := 93) dX11_faultAt_93 rfl (by first | rfl | exact isRefV_rf _) ?_
        refine rm_getf (pc := 94) dX11_faultAt_94 fX11_11 (by assumption) rfl ?_
        refine rj_sipush (pc := 97) dX11_faultAt_97 (by decide +kernel) ?_
        refine rj_iconst (pc := 100) dX11_faultAt_100 ?_
        refine r_iload (pc := 101) dX11_faultAt_101 rfl ?_
        refine rj_imul (pc := 103) dX11_faultAt_103 ?_
        refine rj_iadd (pc := 104) dX11_faultAt_104 ?_
        refine rj_iald (pc := 105) (j := 2328 + 3 * j) dX11_faultAt_105 (by first | exact isM.g0 (by assumption) | exact isM.g3 (by assumption) | exact isM.g4 (by assumption) | exact isM.g8 (by assumption) | exact isM.g7 (by assumption) | exact isM.g6 (by assumption) | exact isM.g5 (by assumption) | exact isM.g1 (by assumption) | exact isM.g2 (by assumption)) (by first | assumption | exact b01_r | exact bz_r | omega | (constructor <;> omega) | exact hM _ | exact hPo _ | exact hTa _ | exact hRo _) (by first | assumption | exact b01_r | exact bz_r | omega | (constructor <;> omega) | exact hM _ | exact hPo _ | exact hTa _ | exact hRo _) (by first | assumption | exact b01_r | exact bz_r | omega | (constructor <;> omega) | exact hM _ | exact hPo _ | exact hTa _ | exact hRo _) (by omega) ?_
        refine r_iload_n (pc := 106) dX11_faultAt_106 rfl ?_
        refine rj_icmp_ne (pc := 107) (tgt := 114) dX11_faultAt_107 (by decide) (by first | assumption | exact b01_r | exact bz_r | omega | (constructor <;> omega) | exact hM _ | exact hPo _ | exact hTa _ | exact hRo _) (by first | assumption | exact b01_r | exact bz_r | omega | (constructor <;> omega) | exact hM _ | exact hPo _ | exact hTa _ | exact hRo _) (fun c_107 => ?_) (fun c_107 => ?_)
        · refine rj_iconst (pc := 114) dX11_faultAt_114 ?_
          refine rj_isub (pc := 115) dX11_faultAt_115 ?_
          refine r_istore (pc := 116) dX11_faultAt_116 (Nat.le_of_ble_eq_true rfl) ?_
          dsimp only [lsSt, List.set, mLs, mEnt]
          refine rj_iinc (pc := 118) dX11_faultAt_118 (Nat.le_of_ble_eq_true rfl) rfl ?_
          dsimp only [lsSt, List.set, mLs, mEnt]
          refine r_goto (pc := 121) (tgt := 69) dX11_faultAt_121 (by decide) ?_
          exfalso; omega
        · refine rj_iconst (pc := 110) dX11_faultAt_110 ?_
          refine r_goto (pc := 111) (tgt := 115) dX11_faultAt_111 (by decide) ?_
          refine rj_isub (pc := 115) dX11_faultAt_115 ?_
          refine r_istore (pc := 116) dX11_faultAt_116 (Nat.le_of_ble_eq_true rfl) ?_
          dsimp only [lsSt, List.set, mLs, mEnt]
          refine rj_iinc (pc := 118) dX11_faultAt_118 (Nat.le_of_ble_eq_true rfl) rfl ?_
          dsimp only [lsSt, List.set, mLs, mEnt]
          refine r_goto (pc := 121) (tgt := 69) dX11_faultAt_121 (by decide) ?_
          have e := cnt_t (p := faultB m t) (n := j) (by simp only [faultB, decide_eq_true_eq]; exact c_83)
          have z := ih (j + 1) (i - 1) (by omega) (by omega) (by omega) (by omega)
          rw [faJ, if_neg (fun g => c_88 g.2), if_pos c_83]
          exact z
end mg_41

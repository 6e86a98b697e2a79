set_option maxHeartbeats 4000000 in
set_option maxRecDepth 100000 in
theorem L_spells {G : mG} {l : Launch} (d : Nat) {x s : Nat} {f4 f6 f8 f9 f10 f11 f12 f13 f14 f16 : Int} {m kp was pool tape pln rwd rw : Nat → Int} (hPo : ∀ q, InR (pool q)) {fr to : Nat} (hto : to ≤ 12300) (hmin : minOk pool fr to) : ∀ (n p : Nat) (b : Bool) (pap : Nat → Int) (w : Nat) (h : mH) (v5 v6 v7 : Option Value), p + n = to → fr ≤ p → w + n ≤ 120 → isM h x (mFs x f4 f6 f8 f9 f10 f11 f12 f13 f14 f16 (w : Int) s) m kp was pool tape pln pap rwd rw → RUN G l (d + 2) mX11_spells 10 [some (.ref x), some (.int (J (fr : Int))), some (.int (J (to : Int))), some (.int (J (bz b))), some (.int (J (p : Int))), v5, v6, v7] [] h (fun v h' => v = none ∧ isM h' x (mFs x f4 f6 f8 f9 f10 f11 f12 f13 f14 f16 ((spS pool to n p b pap w).2 : Int) s) m kp was pool tape pln (spS pool to n p b pap w).1 rwd rw ∧ Same (mBlk x) h h') := by
  intro n
  induction n with
  | zero =>
    intro p b pap w h v5 v6 v7 hp hf hw hB
    have hB0 := hB
    refine r_iload (pc := 10) dX11_spells_10 rfl ?_
    refine r_iload_n (pc := 12) dX11_spells_12 rfl ?_
    refine rj_icmp_ge (pc := 13) (tgt := 162) dX11_spells_13 (by decide) (by first | assumption | exact b01_r | exact bz_r | omega | (constructor <;> omega) | exact hM _ | exact hPo _ | exact hTa _ | exact hRo _) (by first | assumption | exact b01_r | exact bz_r | omega | (constructor <;> omega) | exact hM _ | exact hPo _ | exact hTa _ | exact hRo _) (fun c_13 => ?_) (fun c_13 => ?_)
    · refine r_return (pc := 162) dX11_spells_162 rfl ?_
      exact ⟨rfl, hB0, Same.refl⟩
    · exfalso; omega
  | succ n ih =>
    intro p b pap w h v5 v6 v7 hp hf hw hB
    have hB0 := hB
    have rp := hPo p
    have rp1 := hPo (p + 1)
    have rt : InR (to : Int) := ⟨by omega, by omega⟩
    dsimp only [mFs] at hB
    refine r_iload (pc := 10) dX11_spells_10 rfl ?_
    refine r_iload_n (pc := 12) dX11_spells_12 rfl ?_
    refine rj_icmp_ge (pc := 13) (tgt := 162) dX11_spells_13 (by decide) (by first | assumption | exact b01_r | exact bz_r | omega | (constructor <;> omega) | exact hM _ | exact hPo _ | exact hTa _ | exact hRo _) (by first | assumption | exact b01_r | exact bz_r | omega | (constructor <;> omega) | exact hM _ | exact hPo _ | exact hTa _ | exact hRo _) (fun c_13 => ?_) (fun c_13 => ?_)
    · exfalso; omega
    · refine r_aload_n (pc := 16) dX11_spells_16 rfl (by first | rfl | exact isRefV_rf _) ?_
      refine rm_getf (pc := 17) dX11_spells_17 fX11_21 (by assumption) rfl ?_
      refine r_iload (pc := 20) dX11_spells_20 rfl ?_
      refine rj_iald (pc := 22) (j := p) dX11_spells_22 (by first | exact isM.g0 (by assumption) | exact isM.g3 (by assumption) | exact isM.g4 (by assumption) | exact isM.g8 (by assumption) | exact isM.g7 (by assumption) | exact isM.g6 (by assumption) | exact isM.g5 (by assumption) | exact isM.g1 (by assumption) | exact isM.g2 (by assumption)) (by first | assumption | exact b01_r | exact bz_r | omega | (constructor <;> omega) | exact hM _ | exact hPo _ | exact hTa _ | exact hRo _) (by first | assumption | exact b01_r | exact bz_r | omega | (constructor <;> omega) | exact hM _ | exact hPo _ | exact hTa _ | exact hRo _) (by first | assumption | exact b01_r | exact bz_r | omega | (constructor <;> omega) | exact hM _ | exact hPo _ | exact hTa _ | exact hRo _) (by omega) ?_
      refine r_istore (pc := 23) dX11_spells_23 (Nat.le_of_ble_eq_true rfl) ?_
      dsimp only [lsSt, List.set, mLs, mEnt]
      refine r_iload (pc := 25) dX11_spells_25 rfl ?_
      refine rj_bipush (pc := 27) dX11_spells_27 (by decide +kernel) ?_
      refine rj_bipush (pc := 29) dX11_spells_29 (by decide +kernel) ?_
      refine r_callS3 (pc := 31) dX11_spells_31 qX11_isIn kX11_46 sX11_isIn (Nat.le_of_ble_eq_true rfl) ((m_isIn 0 rp (by decide) (by decide)).deeper (by omega)) (fun v_31 h_31 q_31 => ?_)
      obtain ⟨rfl, rfl⟩ := q_31
      refine r_istore (pc := 34) dX11_spells_34 (Nat.le_of_ble_eq_true rfl) ?_
      dsimp only [lsSt, List.set, mLs, mEnt]
      refine r_iload (pc := 36) dX11_spells_36 rfl ?_
      refine rj_bipush (pc := 38) dX11_spells_38 (by decide +kernel) ?_
      refine rj_icmp_ne (pc := 40) (tgt := 55) dX11_spells_40 (by decide) (by first | assumption | exact b01_r | exact bz_r | omega | (constructor <;> omega) | exact hM _ | exact hPo _ | exact hTa _ | exact hRo _) (by first | assumption | exact b01_r | exact bz_r | omega | (constructor <;> omega) | exact hM _ | exact hPo _ | exact hTa _ | exact hRo _) (fun c_40 => ?_) (fun c_40 => ?_)
      · refine r_iload (pc := 55) dX11_spells_55 rfl ?_
        refine rj_bipush (pc := 57) dX11_spells_57 (by decide +kernel) ?_
        refine rj_icmp_ne (pc := 59) (tgt := 97) dX11_spells_59 (by decide) (by first | assumption | exact b01_r | exact bz_r | omega | (constructor <;> omega) | exact hM _ | exact hPo _ | exact hTa _ | exact hRo _) (by first | assumption | exact b01_r | exact bz_r | omega | (constructor <;> omega) | exact hM _ | exact hPo _ | exact hTa _ | exact hRo _) (fun c_59 => ?_) (fun c_59 => ?_)
        · refine rj_iconst (pc := 97) dX11_spells_97 ?_
          refine r_istore (pc := 98) dX11_spells_98 (Nat.le_of_ble_eq_true rfl) ?_
          dsimp only [lsSt, List.set, mLs, mEnt]
          refine r_iload (pc := 100) dX11_spells_100 rfl ?_
          refine rj_if_eq (pc := 102) (tgt := 125) dX11_spells_102 (by decide) (by first | assumption | exact b01_r | exact bz_r | omega | (constructor <;> omega) | exact hM _ | exact hPo _ | exact hTa _ | exact hRo _) (fun c_102 => ?_) (fun c_102 => ?_)
          · try simp only [b01_0, bz_0, Classical.not_not] at c_102
            refine rj_iconst (pc := 125) dX11_spells_125 ?_
            refine r_istore_n (pc := 126) dX11_spells_126 (Nat.le_of_ble_eq_true rfl) ?_
            dsimp only [lsSt, List.set, mLs, mEnt]
            refine r_iload (pc := 127) dX11_spells_127 rfl ?_
            refine rj_if_eq (pc := 129) (tgt := 135) dX11_spells_129 (by decide) (by first | assumption | exact b01_r | exact bz_r | omega | (constructor <;> omega) | exact hM _ | exact hPo _ | exact hTa _ | exact hRo _) (fun c_129 => ?_) (fun c_129 => ?_)
            · try simp only [b01_0, bz_0, Classical.not_not] at c_129
              refine r_aload_n (pc := 135) dX11_spells_135 rfl (by first | rfl | exact isRefV_rf _) ?_
              refine rm_getf (pc := 136) dX11_spells_136 fX11_33 (by assumption) rfl ?_
              refine r_aload_n (pc := 139) dX11_spells_139 rfl (by first | rfl | exact isRefV_rf _) ?_
              refine rm_getf (pc := 140) dX11_spells_140 fX11_298 (by assumption) rfl ?_
              refine r_iload (pc := 143) dX11_spells_143 rfl ?_
              first | refine rm_iast6 (pc := 145) (j := w) dX11_spells_145 (by assumption) (by first | assumption | exact b01_r | exact bz_r | omega | (constructor <;> omega) | exact hM _ | exact hPo _ | exact hTa _ | exact hRo _) (by first | assumption | exact b01_r | exact bz_r | omega | (constructor <;> omega) | exact hM _ | exact hPo _ | exact hTa _ | exact hRo _) (by first | assumption | exact b01_r | exact bz_r | omega | (constructor <;> omega) | exact hM _ | exact hPo _ | exact hTa _ | exact hRo _) (by omega) (fun h_145 hB_145 hS_145 => ?_)
              refine r_aload_n (pc := 146) dX11_spells_146 rfl (by first | rfl | exact isRefV_rf _) ?_
              refine r_dup (pc := 147) dX11_spells_147 (by first | rfl | (cases ‹Option Nat› <;> rfl)) ?_
              refine rm_getf (pc := 148) dX11_spells_148 fX11_298 (by assumption) rfl ?_
              refine rj_iconst (pc := 151) dX11_spells_151 ?_
              refine rj_iadd (pc := 152) dX11_spells_152 ?_
              refine rm_putf (pc := 153) dX11_spells_153 fX11_298 (by assumption) rfl rfl (Nat.le_of_ble_eq_true rfl) (fun h_153 hB_153 hS_153 => ?_)
              dsimp only [List.set, mFs] at hB_153
              refine rj_iinc (pc := 156) dX11_spells_156 (Nat.le_of_ble_eq_true rfl) rfl ?_
              dsimp only [lsSt, List.set, mLs, mEnt]
              refine r_goto (pc := 159) (tgt := 10) dX11_spells_159 (by decide) ?_
              rw [show ((p : Int) + 1) = ((p + 1 : Nat) : Int) by omega]
              rw [spS, if_neg (fun g => c_40 g.1), if_neg (fun g => c_59 g.1)]
              rw [show decide (dgP (pool p)) = false from decide_eq_false c_102]
              have y := ih (p + 1) false (updI pap w (pool p)) (w + 1) _ (some (.int (J (pool p)))) (some (.int (J (b01 (48 ≤ pool p ∧ pool p ≤ 57))))) (some (.int (J 0))) (by omega) (by omega) (by omega) (by rw [show ((w + 1 : Nat) : Int) = (w : Int) + 1 by omega]; exact hB_153)
              rw [show bz false = 0 from rfl] at y
              exact y.mono (fun v h' q => ⟨q.1, q.2.1, (hS_145.trans hS_153).trans q.2.2⟩)
            · try simp only [b01_0, bz_0, Classical.not_not] at c_129
              all_goals (first | exact absurd trivial ‹¬ True› | exact absurd c_59 c_113 | exact absurd c_106 c_63 | (exfalso; omega))
          · try simp only [b01_0, bz_0, Classical.not_not] at c_102
            refine r_iload_n (pc := 105) dX11_spells_105 rfl ?_
            refine rj_if_ne (pc := 106) (tgt := 121) dX11_spells_106 (by decide) (by first | assumption | exact b01_r | exact bz_r | omega | (constructor <;> omega) | exact hM _ | exact hPo _ | exact hTa _ | exact hRo _) (fun c_106 => ?_) (fun c_106 => ?_)
            · try simp only [b01_0, bz_0, Classical.not_not] at c_106
              refine rj_iconst (pc := 121) dX11_spells_121 ?_
              refine r_goto (pc := 122) (tgt := 126) dX11_spells_122 (by decide) ?_
              refine r_istore_n (pc := 126) dX11_spells_126 (Nat.le_of_ble_eq_true rfl) ?_
              dsimp only [lsSt, List.set, mLs, mEnt]
              refine r_iload (pc := 127) dX11_spells_127 rfl ?_
              refine rj_if_eq (pc := 129) (tgt := 135) dX11_spells_129 (by decide) (by first | assumption | exact b01_r | exact bz_r | omega | (constructor <;> omega) | exact hM _ | exact hPo _ | exact hTa _ | exact hRo _) (fun c_129 => ?_) (fun c_129 => ?_)
              · try simp only [b01_0, bz_0, Classical.not_not] at c_129
                refine r_aload_n (pc := 135) dX11_spells_135 rfl (by first | rfl | exact isRefV_rf _) ?_
                refine rm_getf (pc := 136) dX11_spells_136 fX11_33 (by assumption) rfl ?_
                refine r_aload_n (pc := 139) dX11_spells_139 rfl (by first | rfl | exact isRefV_rf _) ?_
                refine rm_getf (pc := 140) dX11_spells_140 fX11_298 (by assumption) rfl ?_
                refine r_iload (pc := 143) dX11_spells_143 rfl ?_
                first | refine rm_iast6 (pc := 145) (j := w) dX11_spells_145 (by assumption) (by first | assumption | exact b01_r | exact bz_r | omega | (constructor <;> omega) | exact hM _ | exact hPo _ | exact hTa _ | exact hRo _) (by first | assumption | exact b01_r | exact bz_r | omega | (constructor <;> omega) | exact hM _ | exact hPo _ | exact hTa _ | exact hRo _) (by first | assumption | exact b01_r | exact bz_r | omega | (constructor <;> omega) | exact hM _ | exact hPo _ | exact hTa _ | exact hRo _) (by omega) (fun h_145 hB_145 hS_145 => ?_)
                refine r_aload_n (pc := 146) dX11_spells_146 rfl (by first | rfl | exact isRefV_rf _) ?_
                refine r_dup (pc := 147) dX11_spells_147 (by first | rfl | (cases ‹Option Nat› <;> rfl)) ?_
                refine rm_getf (pc := 148) dX11_spells_148 fX11_298 (by assumption) rfl ?_
                refine rj_iconst (pc := 151) dX11_spells_151 ?_
                refine rj_iadd (pc := 152) dX11_spells_152 ?_
                refine rm_putf (pc := 153) dX11_spells_153 fX11_298 (by assumption) rfl rfl (Nat.le_of_ble_eq_true rfl) (fun h_153 hB_153 hS_153 => ?_)
                dsimp only [List.set, mFs] at hB_153
                refine rj_iinc (pc := 156) dX11_spells_156 (Nat.le_of_ble_eq_true rfl) rfl ?_
                dsimp only [lsSt, List.set, mLs, mEnt]
                refine r_goto (pc := 159) (tgt := 10) dX11_spells_159 (by decide) ?_
                rw [show ((p : Int) + 1) = ((p + 1 : Nat) : Int) by omega]
                rw [spS, if_neg (fun g => c_40 g.1), if_neg (fun g => c_59 g.1)]
                rw [show decide (dgP (pool p)) = true from decide_eq_true c_102]
                have y := ih (p + 1) true (updI pap w (pool p)) (w + 1) _ (some (.int (J (pool p)))) (some (.int (J (b01 (48 ≤ pool p ∧ pool p ≤ 57))))) (some (.int (J 0))) (by omega) (by omega) (by omega) (by rw [show ((w + 1 : Nat) : Int) = (w : Int) + 1 by omega]; exact hB_153)
                rw [show bz true = 1 from rfl] at y
                exact y.mono (fun v h' q => ⟨q.1, q.2.1, (hS_145.trans hS_153).trans q.2.2⟩)
              · try simp only [b01_0, bz_0, Classical.not_not] at c_129
                all_goals (first | exact absurd trivial ‹¬ True› | exact absurd c_59 c_113 | exact absurd c_106 c_63 | (exfalso; omega))
            · try simp only [b01_0, bz_0, Classical.not_not] at c_106
              refine r_iload (pc := 109) dX11_spells_109 rfl ?_
              refine rj_bipush (pc := 111) dX11_spells_111 (by decide +kernel) ?_
              refine rj_icmp_ne (pc := 113) (tgt := 121) dX11_spells_113 (by decide) (by first | assumption | exact b01_r | exact bz_r | omega | (constructor <;> omega) | exact hM _ | exact hPo _ | exact hTa _ | exact hRo _) (by first | assumption | exact b01_r | exact bz_r | omega | (constructor <;> omega) | exact hM _ | exact hPo _ | exact hTa _ | exact hRo _) (fun c_113 => ?_) (fun c_113 => ?_)
              · refine rj_iconst (pc := 121) dX11_spells_121 ?_
                refine r_goto (pc := 122) (tgt := 126) dX11_spells_122 (by decide) ?_
                refine r_istore_n (pc := 126) dX11_spells_126 (Nat.le_of_ble_eq_true rfl) ?_
                dsimp only [lsSt, List.set, mLs, mEnt]
                refine r_iload (pc := 127) dX11_spells_127 rfl ?_
                refine rj_if_eq (pc := 129) (tgt := 135) dX11_spells_129 (by decide) (by first | assumption | exact b01_r | exact bz_r | omega | (constructor <;> omega) | exact hM _ | exact hPo _ | exact hTa _ | exact hRo _) (fun c_129 => ?_) (fun c_129 => ?_)
                · try simp only [b01_0, bz_0, Classical.not_not] at c_129
                  refine r_aload_n (pc := 135) dX11_spells_135 rfl (by first | rfl | exact isRefV_rf _) ?_
                  refine rm_getf (pc := 136) dX11_spells_136 fX11_33 (by assumption) rfl ?_
                  refine r_aload_n (pc := 139) dX11_spells_139 rfl (by first | rfl | exact isRefV_rf _) ?_
                  refine rm_getf (pc := 140) dX11_spells_140 fX11_298 (by assumption) rfl ?_
                  refine r_iload (pc := 143) dX11_spells_143 rfl ?_
                  first | refine rm_iast6 (pc := 145) (j := w) dX11_spells_145 (by assumption) (by first | assumption | exact b01_r | exact bz_r | omega | (constructor <;> omega) | exact hM _ | exact hPo _ | exact hTa _ | exact hRo _) (by first | assumption | exact b01_r | exact bz_r | omega | (constructor <;> omega) | exact hM _ | exact hPo _ | exact hTa _ | exact hRo _) (by first | assumption | exact b01_r | exact bz_r | omega | (constructor <;> omega) | exact hM _ | exact hPo _ | exact hTa _ | exact hRo _) (by omega) (fun h_145 hB_145 hS_145 => ?_)
                  refine r_aload_n (pc := 146) dX11_spells_146 rfl (by first | rfl | exact isRefV_rf _) ?_
                  refine r_dup (pc := 147) dX11_spells_147 (by first | rfl | (cases ‹Option Nat› <;> rfl)) ?_
                  refine rm_getf (pc := 148) dX11_spells_148 fX11_298 (by assumption) rfl ?_
                  refine rj_iconst (pc := 151) dX11_spells_151 ?_
                  refine rj_iadd (pc := 152) dX11_spells_152 ?_
                  refine rm_putf (pc := 153) dX11_spells_153 fX11_298 (by assumption) rfl rfl (Nat.le_of_ble_eq_true rfl) (fun h_153 hB_153 hS_153 => ?_)
                  dsimp only [List.set, mFs] at hB_153
                  refine rj_iinc (pc := 156) dX11_spells_156 (Nat.le_of_ble_eq_true rfl) rfl ?_
                  dsimp only [lsSt, List.set, mLs, mEnt]
                  refine r_goto (pc := 159) (tgt := 10) dX11_spells_159 (by decide) ?_
                  rw [show ((p : Int) + 1) = ((p + 1 : Nat) : Int) by omega]
                  rw [spS, if_neg (fun g => c_40 g.1), if_neg (fun g => c_59 g.1)]
                  rw [show decide (dgP (pool p)) = true from decide_eq_true c_102]
                  have y := ih (p + 1) true (updI pap w (pool p)) (w + 1) _ (some (.int (J (pool p)))) (some (.int (J (b01 (48 ≤ pool p ∧ pool p ≤ 57))))) (some (.int (J 0))) (by omega) (by omega) (by omega) (by rw [show ((w + 1 : Nat) : Int) = (w : Int) + 1 by omega]; exact hB_153)
                  rw [show bz true = 1 from rfl] at y
                  exact y.mono (fun v h' q => ⟨q.1, q.2.1, (hS_145.trans hS_153).trans q.2.2⟩)
                · try simp only [b01_0, bz_0, Classical.not_not] at c_129
                  all_goals (first | exact absurd trivial ‹¬ True› | exact absurd c_59 c_113 | exact absurd c_106 c_63 | (exfalso; omega))
              · refine r_iload (pc := 116) dX11_spells_116 rfl ?_
                refine rj_if_ne (pc := 118) (tgt := 125) dX11_spells_118 (by decide) (by first | assumption | exact b01_r | exact bz_r | omega | (constructor <;> omega) | exact hM _ | exact hPo _ | exact hTa _ | exact hRo _) (fun c_118 => ?_) (fun c_118 => ?_)
                · try simp only [b01_0, bz_0, Classical.not_not] at c_118
                  all_goals (first | exact absurd trivial ‹¬ True› | exact absurd c_59 c_113 | exact absurd c_106 c_63 | (exfalso; omega))
                · try simp only [b01_0, bz_0, Classical.not_not] at c_118
                  refine rj_iconst (pc := 121) dX11_spells_121 ?_
                  refine r_goto (pc := 122) (tgt := 126) dX11_spells_122 (by decide) ?_
                  refine r_istore_n (pc := 126) dX11_spells_126 (Nat.le_of_ble_eq_true rfl) ?_
                  dsimp only [lsSt, List.set, mLs, mEnt]
                  refine r_iload (pc := 127) dX11_spells_127 rfl ?_
                  refine rj_if_eq (pc := 129) (tgt := 135) dX11_spells_129 (by decide) (by first | assumption | exact b01_r | exact bz_r | omega | (constructor <;> omega) | exact hM _ | exact hPo _ | exact hTa _ | exact hRo _) (fun c_129 => ?_) (fun c_129 => ?_)
                  · try simp only [b01_0, bz_0, Classical.not_not] at c_129
                    refine r_aload_n (pc := 135) dX11_spells_135 rfl (by first | rfl | exact isRefV_rf _) ?_
                    refine rm_getf (pc := 136) dX11_spells_136 fX11_33 (by assumption) rfl ?_
                    refine r_aload_n (pc := 139) dX11_spells_139 rfl (by first | rfl | exact isRefV_rf _) ?_
                    refine rm_getf (pc := 140) dX11_spells_140 fX11_298 (by assumption) rfl ?_
                    refine r_iload (pc := 143) dX11_spells_143 rfl ?_
                    first | refine rm_iast6 (pc := 145) (j := w) dX11_spells_145 (by assumption) (by first | assumption | exact b01_r | exact bz_r | omega | (constructor <;> omega) | exact hM _ | exact hPo _ | exact hTa _ | exact hRo _) (by first | assumption | exact b01_r | exact bz_r | omega | (constructor <;> omega) | exact hM _ | exact hPo _ | exact hTa _ | exact hRo _) (by first | assumption | exact b01_r | exact bz_r | omega | (constructor <;> omega) | exact hM _ | exact hPo _ | exact hTa _ | exact hRo _) (by omega) (fun h_145 hB_145 hS_145 => ?_)
                    refine r_aload_n (pc := 146) dX11_spells_146 rfl (by first | rfl | exact isRefV_rf _) ?_
                    refine r_dup (pc := 147) dX11_spells_147 (by first | rfl | (cases ‹Option Nat› <;> rfl)) ?_
                    refine rm_getf (pc := 148) dX11_spells_148 fX11_298 (by assumption) rfl ?_
                    refine rj_iconst (pc := 151) dX11_spells_151 ?_
                    refine rj_iadd (pc := 152) dX11_spells_152 ?_
                    refine rm_putf (pc := 153) dX11_spells_153 fX11_298 (by assumption) rfl rfl (Nat.le_of_ble_eq_true rfl) (fun h_153 hB_153 hS_153 => ?_)
                    dsimp only [List.set, mFs] at hB_153
                    refine rj_iinc (pc := 156) dX11_spells_156 (Nat.le_of_ble_eq_true rfl) rfl ?_
                    dsimp only [lsSt, List.set, mLs, mEnt]
                    refine r_goto (pc := 159) (tgt := 10) dX11_spells_159 (by decide) ?_
                    rw [show ((p : Int) + 1) = ((p + 1 : Nat) : Int) by omega]
                    rw [spS, if_neg (fun g => c_40 g.1), if_neg (fun g => c_59 g.1)]
                    rw [show decide (dgP (pool p)) = true from decide_eq_true c_102]
                    have y := ih (p + 1) true (updI pap w (pool p)) (w + 1) _ (some (.int (J (pool p)))) (some (.int (J (b01 (48 ≤ pool p ∧ pool p ≤ 57))))) (some (.int (J 0))) (by omega) (by omega) (by omega) (by rw [show ((w + 1 : Nat) : Int) = (w : Int) + 1 by omega]; exact hB_153)
                    rw [show bz true = 1 from rfl] at y
                    exact y.mono (fun v h' q => ⟨q.1, q.2.1, (hS_145.trans hS_153).trans q.2.2⟩)
                  · try simp only [b01_0, bz_0, Classical.not_not] at c_129
                    all_goals (first | exact absurd trivial ‹¬ True› | exact absurd c_59 c_113 | exact absurd c_106 c_63 | (exfalso; omega))
        · refine r_iload_n (pc := 62) dX11_spells_62 rfl ?_
          refine rj_if_ne (pc := 63) (tgt := 97) dX11_spells_63 (by decide) (by first | assumption | exact b01_r | exact bz_r | omega | (constructor <;> omega) | exact hM _ | exact hPo _ | exact hTa _ | exact hRo _) (fun c_63 => ?_) (fun c_63 => ?_)
          · try simp only [b01_0, bz_0, Classical.not_not] at c_63
            refine rj_iconst (pc := 97) dX11_spells_97 ?_
            refine r_istore (pc := 98) dX11_spells_98 (Nat.le_of_ble_eq_true rfl) ?_
            dsimp only [lsSt, List.set, mLs, mEnt]
            refine r_iload (pc := 100) dX11_spells_100 rfl ?_
            refine rj_if_eq (pc := 102) (tgt := 125) dX11_spells_102 (by decide) (by first | assumption | exact b01_r | exact bz_r | omega | (constructor <;> omega) | exact hM _ | exact hPo _ | exact hTa _ | exact hRo _) (fun c_102 => ?_) (fun c_102 => ?_)
            · try simp only [b01_0, bz_0, Classical.not_not] at c_102
              refine rj_iconst (pc := 125) dX11_spells_125 ?_
              refine r_istore_n (pc := 126) dX11_spells_126 (Nat.le_of_ble_eq_true rfl) ?_
              dsimp only [lsSt, List.set, mLs, mEnt]
              refine r_iload (pc := 127) dX11_spells_127 rfl ?_
              refine rj_if_eq (pc := 129) (tgt := 135) dX11_spells_129 (by decide) (by first | assumption | exact b01_r | exact bz_r | omega | (constructor <;> omega) | exact hM _ | exact hPo _ | exact hTa _ | exact hRo _) (fun c_129 => ?_) (fun c_129 => ?_)
              · try simp only [b01_0, bz_0, Classical.not_not] at c_129
                refine r_aload_n (pc := 135) dX11_spells_135 rfl (by first | rfl | exact isRefV_rf _) ?_
                refine rm_getf (pc := 136) dX11_spells_136 fX11_33 (by assumption) rfl ?_
                refine r_aload_n (pc := 139) dX11_spells_139 rfl (by first | rfl | exact isRefV_rf _) ?_
                refine rm_getf (pc := 140) dX11_spells_140 fX11_298 (by assumption) rfl ?_
                refine r_iload (pc := 143) dX11_spells_143 rfl ?_
                first | refine rm_iast6 (pc := 145) (j := w) dX11_spells_145 (by assumption) (by first | assumption | exact b01_r | exact bz_r | omega | (constructor <;> omega) | exact hM _ | exact hPo _ | exact hTa _ | exact hRo _) (by first | assumption | exact b01_r | exact bz_r | omega | (constructor <;> omega) | exact hM _ | exact hPo _ | exact hTa _ | exact hRo _) (by first | assumption | exact b01_r | exact bz_r | omega | (constructor <;> omega) | exact hM _ | exact hPo _ | exact hTa _ | exact hRo _) (by omega) (fun h_145 hB_145 hS_145 => ?_)
                refine r_aload_n (pc := 146) dX11_spells_146 rfl (by first | rfl | exact isRefV_rf _) ?_
                refine r_dup (pc := 147) dX11_spells_147 (by first | rfl | (cases ‹Option Nat› <;> rfl)) ?_
                refine rm_getf (pc := 148) dX11_spells_148 fX11_298 (by assumption) rfl ?_
                refine rj_iconst (pc := 151) dX11_spells_151 ?_
                refine rj_iadd (pc := 152) dX11_spells_152 ?_
                refine rm_putf (pc := 153) dX11_spells_153 fX11_298 (by assumption) rfl rfl (Nat.le_of_ble_eq_true rfl) (fun h_153 hB_153 hS_153 => ?_)
                dsimp only [List.set, mFs] at hB_153
                refine rj_iinc (pc := 156) dX11_spells_156 (Nat.le_of_ble_eq_true rfl) rfl ?_
                dsimp only [lsSt, List.set, mLs, mEnt]
                refine r_goto (pc := 159) (tgt := 10) dX11_spells_159 (by decide) ?_
                rw [show ((p : Int) + 1) = ((p + 1 : Nat) : Int) by omega]
                rw [spS, if_neg (fun g => c_40 g.1), if_neg (fun g => absurd g.2.1 (by simpa using c_63))]
                rw [show decide (dgP (pool p)) = false from decide_eq_false c_102]
                have y := ih (p + 1) false (updI pap w (pool p)) (w + 1) _ (some (.int (J (pool p)))) (some (.int (J (b01 (48 ≤ pool p ∧ pool p ≤ 57))))) (some (.int (J 0))) (by omega) (by omega) (by omega) (by rw [show ((w + 1 : Nat) : Int) = (w : Int) + 1 by omega]; exact hB_153)
                rw [show bz false = 0 from rfl] at y
                exact y.mono (fun v h' q => ⟨q.1, q.2.1, (hS_145.trans hS_153).trans q.2.2⟩)
              · try simp only [b01_0, bz_0, Classical.not_not] at c_129
                all_goals (first | exact absurd trivial ‹¬ True› | exact absurd c_59 c_113 | exact absurd c_106 c_63 | (exfalso; omega))
            · try simp only [b01_0, bz_0, Classical.not_not] at c_102
              refine r_iload_n (pc := 105) dX11_spells_105 rfl ?_
              refine rj_if_ne (pc := 106) (tgt := 121) dX11_spells_106 (by decide) (by first | assumption | exact b01_r | exact bz_r | omega | (constructor <;> omega) | exact hM _ | exact hPo _ | exact hTa _ | exact hRo _) (fun c_106 => ?_) (fun c_106 => ?_)
              · try simp only [b01_0, bz_0, Classical.not_not] at c_106
                refine rj_iconst (pc := 121) dX11_spells_121 ?_
                refine r_goto (pc := 122) (tgt := 126) dX11_spells_122 (by decide) ?_
                refine r_istore_n (pc := 126) dX11_spells_126 (Nat.le_of_ble_eq_true rfl) ?_
                dsimp only [lsSt, List.set, mLs, mEnt]
                refine r_iload (pc := 127) dX11_spells_127 rfl ?_
                refine rj_if_eq (pc := 129) (tgt := 135) dX11_spells_129 (by decide) (by first | assumption | exact b01_r | exact bz_r | omega | (constructor <;> omega) | exact hM _ | exact hPo _ | exact hTa _ | exact hRo _) (fun c_129 => ?_) (fun c_129 => ?_)
                · try simp only [b01_0, bz_0, Classical.not_not] at c_129
                  refine r_aload_n (pc := 135) dX11_spells_135 rfl (by first | rfl | exact isRefV_rf _) ?_
                  refine rm_getf (pc := 136) dX11_spells_136 fX11_33 (by assumption) rfl ?_
                  refine r_aload_n (pc := 139) dX11_spells_139 rfl (by first | rfl | exact isRefV_rf _) ?_
                  refine rm_getf (pc := 140) dX11_spells_140 fX11_298 (by assumption) rfl ?_
                  refine r_iload (pc := 143) dX11_spells_143 rfl ?_
                  first | refine rm_iast6 (pc := 145) (j := w) dX11_spells_145 (by assumption) (by first | assumption | exact b01_r | exact bz_r | omega | (constructor <;> omega) | exact hM _ | exact hPo _ | exact hTa _ | exact hRo _) (by first | assumption | exact b01_r | exact bz_r | omega | (constructor <;> omega) | exact hM _ | exact hPo _ | exact hTa _ | exact hRo _) (by first | assumption | exact b01_r | exact bz_r | omega | (constructor <;> omega) | exact hM _ | exact hPo _ | exact hTa _ | exact hRo _) (by omega) (fun h_145 hB_145 hS_145 => ?_)
                  refine r_aload_n (pc := 146) dX11_spells_146 rfl (by first | rfl | exact isRefV_rf _) ?_
                  refine r_dup (pc := 147) dX11_spells_147 (by first | rfl | (cases ‹Option Nat› <;> rfl)) ?_
                  refine rm_getf (pc := 148) dX11_spells_148 fX11_298 (by assumption) rfl ?_
                  refine rj_iconst (pc := 151) dX11_spells_151 ?_
                  refine rj_iadd (pc := 152) dX11_spells_152 ?_
                  refine rm_putf (pc := 153) dX11_spells_153 fX11_298 (by assumption) rfl rfl (Nat.le_of_ble_eq_true rfl) (fun h_153 hB_153 hS_153 => ?_)
                  dsimp only [List.set, mFs] at hB_153
                  refine rj_iinc (pc := 156) dX11_spells_156 (Nat.le_of_ble_eq_true rfl) rfl ?_
                  dsimp only [lsSt, List.set, mLs, mEnt]
                  refine r_goto (pc := 159) (tgt := 10) dX11_spells_159 (by decide) ?_
                  rw [show ((p : Int) + 1) = ((p + 1 : Nat) : Int) by omega]
                  rw [spS, if_neg (fun g => c_40 g.1), if_neg (fun g => absurd g.2.1 (by simpa using c_63))]
                  rw [show decide (dgP (pool p)) = true from decide_eq_true c_102]
                  have y := ih (p + 1) true (updI pap w (pool p)) (w + 1) _ (some (.int (J (pool p)))) (some (.int (J (b01 (48 ≤ pool p ∧ pool p ≤ 57))))) (some (.int (J 0))) (by omega) (by omega) (by omega) (by rw [show ((w + 1 : Nat) : Int) = (w : Int) + 1 by omega]; exact hB_153)
                  rw [show bz true = 1 from rfl] at y
                  exact y.mono (fun v h' q => ⟨q.1, q.2.1, (hS_145.trans hS_153).trans q.2.2⟩)
                · try simp only [b01_0, bz_0, Classical.not_not] at c_129
                  all_goals (first | exact absurd trivial ‹¬ True› | exact absurd c_59 c_113 | exact absurd c_106 c_63 | (exfalso; omega))
              · try simp only [b01_0, bz_0, Classical.not_not] at c_106
                refine r_iload (pc := 109) dX11_spells_109 rfl ?_
                refine rj_bipush (pc := 111) dX11_spells_111 (by decide +kernel) ?_
                refine rj_icmp_ne (pc := 113) (tgt := 121) dX11_spells_113 (by decide) (by first | assumption | exact b01_r | exact bz_r | omega | (constructor <;> omega) | exact hM _ | exact hPo _ | exact hTa _ | exact hRo _) (by first | assumption | exact b01_r | exact bz_r | omega | (constructor <;> omega) | exact hM _ | exact hPo _ | exact hTa _ | exact hRo _) (fun c_113 => ?_) (fun c_113 => ?_)
                · refine rj_iconst (pc := 121) dX11_spells_121 ?_
                  refine r_goto (pc := 122) (tgt := 126) dX11_spells_122 (by decide) ?_
                  refine r_istore_n (pc := 126) dX11_spells_126 (Nat.le_of_ble_eq_true rfl) ?_
                  dsimp only [lsSt, List.set, mLs, mEnt]
                  refine r_iload (pc := 127) dX11_spells_127 rfl ?_
                  refine rj_if_eq (pc := 129) (tgt := 135) dX11_spells_129 (by decide) (by first | assumption | exact b01_r | exact bz_r | omega | (constructor <;> omega) | exact hM _ | exact hPo _ | exact hTa _ | exact hRo _) (fun c_129 => ?_) (fun c_129 => ?_)
                  · try simp only [b01_0, bz_0, Classical.not_not] at c_129
                    refine r_aload_n (pc := 135) dX11_spells_135 rfl (by first | rfl | exact isRefV_rf _) ?_
                    refine rm_getf (pc := 136) dX11_spells_136 fX11_33 (by assumption) rfl ?_
                    refine r_aload_n (pc := 139) dX11_spells_139 rfl (by first | rfl | exact isRefV_rf _) ?_
                    refine rm_getf (pc := 140) dX11_spells_140 fX11_298 (by assumption) rfl ?_
                    refine r_iload (pc := 143) dX11_spells_143 rfl ?_
                    first | refine rm_iast6 (pc := 145) (j := w) dX11_spells_145 (by assumption) (by first | assumption | exact b01_r | exact bz_r | omega | (constructor <;> omega) | exact hM _ | exact hPo _ | exact hTa _ | exact hRo _) (by first | assumption | exact b01_r | exact bz_r | omega | (constructor <;> omega) | exact hM _ | exact hPo _ | exact hTa _ | exact hRo _) (by first | assumption | exact b01_r | exact bz_r | omega | (constructor <;> omega) | exact hM _ | exact hPo _ | exact hTa _ | exact hRo _) (by omega) (fun h_145 hB_145 hS_145 => ?_)
                    refine r_aload_n (pc := 146) dX11_spells_146 rfl (by first | rfl | exact isRefV_rf _) ?_
                    refine r_dup (pc := 147) dX11_spells_147 (by first | rfl | (cases ‹Option Nat› <;> rfl)) ?_
                    refine rm_getf (pc := 148) dX11_spells_148 fX11_298 (by assumption) rfl ?_
                    refine rj_iconst (pc := 151) dX11_spells_151 ?_
                    refine rj_iadd (pc := 152) dX11_spells_152 ?_
                    refine rm_putf (pc := 153) dX11_spells_153 fX11_298 (by assumption) rfl rfl (Nat.le_of_ble_eq_true rfl) (fun h_153 hB_153 hS_153 => ?_)
                    dsimp only [List.set, mFs] at hB_153
                    refine rj_iinc (pc := 156) dX11_spells_156 (Nat.le_of_ble_eq_true rfl) rfl ?_
                    dsimp only [lsSt, List.set, mLs, mEnt]
                    refine r_goto (pc := 159) (tgt := 10) dX11_spells_159 (by decide) ?_
                    rw [show ((p : Int) + 1) = ((p + 1 : Nat) : Int) by omega]
                    rw [spS, if_neg (fun g => c_40 g.1), if_neg (fun g => absurd g.2.1 (by simpa using c_63))]
                    rw [show decide (dgP (pool p)) = true from decide_eq_true c_102]
                    have y := ih (p + 1) true (updI pap w (pool p)) (w + 1) _ (some (.int (J (pool p)))) (some (.int (J (b01 (48 ≤ pool p ∧ pool p ≤ 57))))) (some (.int (J 0))) (by omega) (by omega) (by omega) (by rw [show ((w + 1 : Nat) : Int) = (w : Int) + 1 by omega]; exact hB_153)
                    rw [show bz true = 1 from rfl] at y
                    exact y.mono (fun v h' q => ⟨q.1, q.2.1, (hS_145.trans hS_153).trans q.2.2⟩)
                  · try simp only [b01_0, bz_0, Classical.not_not] at c_129
                    all_goals (first | exact absurd trivial ‹¬ True› | exact absurd c_59 c_113 | exact absurd c_106 c_63 | (exfalso; omega))
                · refine r_iload (pc := 116) dX11_spells_116 rfl ?_
                  refine rj_if_ne (pc := 118) (tgt := 125) dX11_spells_118 (by decide) (by first | assumption | exact b01_r | exact bz_r | omega | (constructor <;> omega) | exact hM _ | exact hPo _ | exact hTa _ | exact hRo _) (fun c_118 => ?_) (fun c_118 => ?_)
                  · try simp only [b01_0, bz_0, Classical.not_not] at c_118
                    all_goals (first | exact absurd trivial ‹¬ True› | exact absurd c_59 c_113 | exact absurd c_106 c_63 | (exfalso; omega))
                  · try simp only [b01_0, bz_0, Classical.not_not] at c_118
                    refine rj_iconst (pc := 121) dX11_spells_121 ?_
                    refine r_goto (pc := 122) (tgt := 126) dX11_spells_122 (by decide) ?_
                    refine r_istore_n (pc := 126) dX11_spells_126 (Nat.le_of_ble_eq_true rfl) ?_
                    dsimp only [lsSt, List.set, mLs, mEnt]
                    refine r_iload (pc := 127) dX11_spells_127 rfl ?_
                    refine rj_if_eq (pc := 129) (tgt := 135) dX11_spells_129 (by decide) (by first | assumption | exact b01_r | exact bz_r | omega | (constructor <;> omega) | exact hM _ | exact hPo _ | exact hTa _ | exact hRo _) (fun c_129 => ?_) (fun c_129 => ?_)
                    · try simp only [b01_0, bz_0, Classical.not_not] at c_129
                      refine r_aload_n (pc := 135) dX11_spells_135 rfl (by first | rfl | exact isRefV_rf _) ?_
                      refine rm_getf (pc := 136) dX11_spells_136 fX11_33 (by assumption) rfl ?_
                      refine r_aload_n (pc := 139) dX11_spells_139 rfl (by first | rfl | exact isRefV_rf _) ?_
                      refine rm_getf (pc := 140) dX11_spells_140 fX11_298 (by assumption) rfl ?_
                      refine r_iload (pc := 143) dX11_spells_143 rfl ?_
                      first | refine rm_iast6 (pc := 145) (j := w) dX11_spells_145 (by assumption) (by first | assumption | exact b01_r | exact bz_r | omega | (constructor <;> omega) | exact hM _ | exact hPo _ | exact hTa _ | exact hRo _) (by first | assumption | exact b01_r | exact bz_r | omega | (constructor <;> omega) | exact hM _ | exact hPo _ | exact hTa _ | exact hRo _) (by first | assumption | exact b01_r | exact bz_r | omega | (constructor <;> omega) | exact hM _ | exact hPo _ | exact hTa _ | exact hRo _) (by omega) (fun h_145 hB_145 hS_145 => ?_)
                      refine r_aload_n (pc := 146) dX11_spells_146 rfl (by first | rfl | exact isRefV_rf _) ?_
                      refine r_dup (pc := 147) dX11_spells_147 (by first | rfl | (cases ‹Option Nat› <;> rfl)) ?_
                      refine rm_getf (pc := 148) dX11_spells_148 fX11_298 (by assumption) rfl ?_
                      refine rj_iconst (pc := 151) dX11_spells_151 ?_
                      refine rj_iadd (pc := 152) dX11_spells_152 ?_
                      refine rm_putf (pc := 153) dX11_spells_153 fX11_298 (by assumption) rfl rfl (Nat.le_of_ble_eq_true rfl) (fun h_153 hB_153 hS_153 => ?_)
                      dsimp only [List.set, mFs] at hB_153
                      refine rj_iinc (pc := 156) dX11_spells_156 (Nat.le_of_ble_eq_true rfl) rfl ?_
                      dsimp only [lsSt, List.set, mLs, mEnt]
                      refine r_goto (pc := 159) (tgt := 10) dX11_spells_159 (by decide) ?_
                      rw [show ((p : Int) + 1) = ((p + 1 : Nat) : Int) by omega]
                      rw [spS, if_neg (fun g => c_40 g.1), if_neg (fun g => absurd g.2.1 (by simpa using c_63))]
                      rw [show decide (dgP (pool p)) = true from decide_eq_true c_102]
                      have y := ih (p + 1) true (updI pap w (pool p)) (w + 1) _ (some (.int (J (pool p)))) (some (.int (J (b01 (48 ≤ pool p ∧ pool p ≤ 57))))) (some (.int (J 0))) (by omega) (by omega) (by omega) (by rw [show ((w + 1 : Nat) : Int) = (w : Int) + 1 by omega]; exact hB_153)
                      rw [show bz true = 1 from rfl] at y
                      exact y.mono (fun v h' q => ⟨q.1, q.2.1, (hS_145.trans hS_153).trans q.2.2⟩)
                    · try simp only [b01_0, bz_0, Classical.not_not] at c_129
                      all_goals (first | exact absurd trivial ‹¬ True› | exact absurd c_59 c_113 | exact absurd c_106 c_63 | (exfalso; omega))
          · try simp only [b01_0, bz_0, Classical.not_not] at c_63
            refine r_iload (pc := 66) dX11_spells_66 rfl ?_
            refine rj_iconst (pc := 68) dX11_spells_68 ?_
            refine rj_iadd (pc := 69) dX11_spells_69 ?_
            refine r_iload_n (pc := 70) dX11_spells_70 rfl ?_
            refine rj_icmp_ge (pc := 71) (tgt := 97) dX11_spells_71 (by decide) (by first | assumption | exact b01_r | exact bz_r | omega | (constructor <;> omega) | exact hM _ | exact hPo _ | exact hTa _ | exact hRo _) (by first | assumption | exact b01_r | exact bz_r | omega | (constructor <;> omega) | exact hM _ | exact hPo _ | exact hTa _ | exact hRo _) (fun c_71 => ?_) (fun c_71 => ?_)
            · refine rj_iconst (pc := 97) dX11_spells_97 ?_
              refine r_istore (pc := 98) dX11_spells_98 (Nat.le_of_ble_eq_true rfl) ?_
              dsimp only [lsSt, List.set, mLs, mEnt]
              refine r_iload (pc := 100) dX11_spells_100 rfl ?_
              refine rj_if_eq (pc := 102) (tgt := 125) dX11_spells_102 (by decide) (by first | assumption | exact b01_r | exact bz_r | omega | (constructor <;> omega) | exact hM _ | exact hPo _ | exact hTa _ | exact hRo _) (fun c_102 => ?_) (fun c_102 => ?_)
              · try simp only [b01_0, bz_0, Classical.not_not] at c_102
                refine rj_iconst (pc := 125) dX11_spells_125 ?_
                refine r_istore_n (pc := 126) dX11_spells_126 (Nat.le_of_ble_eq_true rfl) ?_
                dsimp only [lsSt, List.set, mLs, mEnt]
                refine r_iload (pc := 127) dX11_spells_127 rfl ?_
                refine rj_if_eq (pc := 129) (tgt := 135) dX11_spells_129 (by decide) (by first | assumption | exact b01_r | exact bz_r | omega | (constructor <;> omega) | exact hM _ | exact hPo _ | exact hTa _ | exact hRo _) (fun c_129 => ?_) (fun c_129 => ?_)
                · try simp only [b01_0, bz_0, Classical.not_not] at c_129
                  refine r_aload_n (pc := 135) dX11_spells_135 rfl (by first | rfl | exact isRefV_rf _) ?_
                  refine rm_getf (pc := 136) dX11_spells_136 fX11_33 (by assumption) rfl ?_
                  refine r_aload_n (pc := 139) dX11_spells_139 rfl (by first | rfl | exact isRefV_rf _) ?_
                  refine rm_getf (pc := 140) dX11_spells_140 fX11_298 (by assumption) rfl ?_
                  refine r_iload (pc := 143) dX11_spells_143 rfl ?_
                  first | refine rm_iast6 (pc := 145) (j := w) dX11_spells_145 (by assumption) (by first | assumption | exact b01_r | exact bz_r | omega | (constructor <;> omega) | exact hM _ | exact hPo _ | exact hTa _ | exact hRo _) (by first | assumption | exact b01_r | exact bz_r | omega | (constructor <;> omega) | exact hM _ | exact hPo _ | exact hTa _ | exact hRo _) (by first | assumption | exact b01_r | exact bz_r | omega | (constructor <;> omega) | exact hM _ | exact hPo _ | exact hTa _ | exact hRo _) (by omega) (fun h_145 hB_145 hS_145 => ?_)
                  refine r_aload_n (pc := 146) dX11_spells_146 rfl (by first | rfl | exact isRefV_rf _) ?_
                  refine r_dup (pc := 147) dX11_spells_147 (by first | rfl | (cases ‹Option Nat› <;> rfl)) ?_
                  refine rm_getf (pc := 148) dX11_spells_148 fX11_298 (by assumption) rfl ?_
                  refine rj_iconst (pc := 151) dX11_spells_151 ?_
                  refine rj_iadd (pc := 152) dX11_spells_152 ?_
                  refine rm_putf (pc := 153) dX11_spells_153 fX11_298 (by assumption) rfl rfl (Nat.le_of_ble_eq_true rfl) (fun h_153 hB_153 hS_153 => ?_)
                  dsimp only [List.set, mFs] at hB_153
                  refine rj_iinc (pc := 156) dX11_spells_156 (Nat.le_of_ble_eq_true rfl) rfl ?_
                  dsimp only [lsSt, List.set, mLs, mEnt]
                  refine r_goto (pc := 159) (tgt := 10) dX11_spells_159 (by decide) ?_
                  rw [show ((p : Int) + 1) = ((p + 1 : Nat) : Int) by omega]
                  rw [spS, if_neg (fun g => c_40 g.1), if_neg (fun g => absurd g.2.2.1 (by omega))]
                  rw [show decide (dgP (pool p)) = false from decide_eq_false c_102]
                  have y := ih (p + 1) false (updI pap w (pool p)) (w + 1) _ (some (.int (J (pool p)))) (some (.int (J (b01 (48 ≤ pool p ∧ pool p ≤ 57))))) (some (.int (J 0))) (by omega) (by omega) (by omega) (by rw [show ((w + 1 : Nat) : Int) = (w : Int) + 1 by omega]; exact hB_153)
                  rw [show bz false = 0 from rfl] at y
                  exact y.mono (fun v h' q => ⟨q.1, q.2.1, (hS_145.trans hS_153).trans q.2.2⟩)
                · try simp only [b01_0, bz_0, Classical.not_not] at c_129
                  all_goals (first | exact absurd trivial ‹¬ True› | exact absurd c_59 c_113 | exact absurd c_106 c_63 | (exfalso; omega))
              · try simp only [b01_0, bz_0, Classical.not_not] at c_102
                refine r_iload_n (pc := 105) dX11_spells_105 rfl ?_
                refine rj_if_ne (pc := 106) (tgt := 121) dX11_spells_106 (by decide) (by first | assumption | exact b01_r | exact bz_r | omega | (constructor <;> omega) | exact hM _ | exact hPo _ | exact hTa _ | exact hRo _) (fun c_106 => ?_) (fun c_106 => ?_)
                · try simp only [b01_0, bz_0, Classical.not_not] at c_106
                  refine rj_iconst (pc := 121) dX11_spells_121 ?_
                  refine r_goto (pc := 122) (tgt := 126) dX11_spells_122 (by decide) ?_
                  refine r_istore_n (pc := 126) dX11_spells_126 (Nat.le_of_ble_eq_true rfl) ?_
                  dsimp only [lsSt, List.set, mLs, mEnt]
                  refine r_iload (pc := 127) dX11_spells_127 rfl ?_
                  refine rj_if_eq (pc := 129) (tgt := 135) dX11_spells_129 (by decide) (by first | assumption | exact b01_r | exact bz_r | omega | (constructor <;> omega) | exact hM _ | exact hPo _ | exact hTa _ | exact hRo _) (fun c_129 => ?_) (fun c_129 => ?_)
                  · try simp only [b01_0, bz_0, Classical.not_not] at c_129
                    refine r_aload_n (pc := 135) dX11_spells_135 rfl (by first | rfl | exact isRefV_rf _) ?_
                    refine rm_getf (pc := 136) dX11_spells_136 fX11_33 (by assumption) rfl ?_
                    refine r_aload_n (pc := 139) dX11_spells_139 rfl (by first | rfl | exact isRefV_rf _) ?_
                    refine rm_getf (pc := 140) dX11_spells_140 fX11_298 (by assumption) rfl ?_
                    refine r_iload (pc := 143) dX11_spells_143 rfl ?_
                    first | refine rm_iast6 (pc := 145) (j := w) dX11_spells_145 (by assumption) (by first | assumption | exact b01_r | exact bz_r | omega | (constructor <;> omega) | exact hM _ | exact hPo _ | exact hTa _ | exact hRo _) (by first | assumption | exact b01_r | exact bz_r | omega | (constructor <;> omega) | exact hM _ | exact hPo _ | exact hTa _ | exact hRo _) (by first | assumption | exact b01_r | exact bz_r | omega | (constructor <;> omega) | exact hM _ | exact hPo _ | exact hTa _ | exact hRo _) (by omega) (fun h_145 hB_145 hS_145 => ?_)
                    refine r_aload_n (pc := 146) dX11_spells_146 rfl (by first | rfl | exact isRefV_rf _) ?_
                    refine r_dup (pc := 147) dX11_spells_147 (by first | rfl | (cases ‹Option Nat› <;> rfl)) ?_
                    refine rm_getf (pc := 148) dX11_spells_148 fX11_298 (by assumption) rfl ?_
                    refine rj_iconst (pc := 151) dX11_spells_151 ?_
                    refine rj_iadd (pc := 152) dX11_spells_152 ?_
                    refine rm_putf (pc := 153) dX11_spells_153 fX11_298 (by assumption) rfl rfl (Nat.le_of_ble_eq_true rfl) (fun h_153 hB_153 hS_153 => ?_)
                    dsimp only [List.set, mFs] at hB_153
                    refine rj_iinc (pc := 156) dX11_spells_156 (Nat.le_of_ble_eq_true rfl) rfl ?_
                    dsimp only [lsSt, List.set, mLs, mEnt]
                    refine r_goto (pc := 159) (tgt := 10) dX11_spells_159 (by decide) ?_
                    rw [show ((p : Int) + 1) = ((p + 1 : Nat) : Int) by omega]
                    rw [spS, if_neg (fun g => c_40 g.1), if_neg (fun g => absurd g.2.2.1 (by omega))]
                    rw [show decide (dgP (pool p)) = true from decide_eq_true c_102]
                    have y := ih (p + 1) true (updI pap w (pool p)) (w + 1) _ (some (.int (J (pool p)))) (some (.int (J (b01 (48 ≤ pool p ∧ pool p ≤ 57))))) (some (.int (J 0))) (by omega) (by omega) (by omega) (by rw [show ((w + 1 : Nat) : Int) = (w : Int) + 1 by omega]; exact hB_153)
                    rw [show bz true = 1 from rfl] at y
                    exact y.mono (fun v h' q => ⟨q.1, q.2.1, (hS_145.trans hS_153).trans q.2.2⟩)
                  · try simp only [b01_0, bz_0, Classical.not_not] at c_129
                    all_goals (first | exact absurd trivial ‹¬ True› | exact absurd c_59 c_113 | exact absurd c_106 c_63 | (exfalso; omega))
                · try simp only [b01_0, bz_0, Classical.not_not] at c_106
                  refine r_iload (pc := 109) dX11_spells_109 rfl ?_
                  refine rj_bipush (pc := 111) dX11_spells_111 (by decide +kernel) ?_
                  refine rj_icmp_ne (pc := 113) (tgt := 121) dX11_spells_113 (by decide) (by first | assumption | exact b01_r | exact bz_r | omega | (constructor <;> omega) | exact hM _ | exact hPo _ | exact hTa _ | exact hRo _) (by first | assumption | exact b01_r | exact bz_r | omega | (constructor <;> omega) | exact hM _ | exact hPo _ | exact hTa _ | exact hRo _) (fun c_113 => ?_) (fun c_113 => ?_)
                  · refine rj_iconst (pc := 121) dX11_spells_121 ?_
                    refine r_goto (pc := 122) (tgt := 126) dX11_spells_122 (by decide) ?_
                    refine r_istore_n (pc := 126) dX11_spells_126 (Nat.le_of_ble_eq_true rfl) ?_
                    dsimp only [lsSt, List.set, mLs, mEnt]
                    refine r_iload (pc := 127) dX11_spells_127 rfl ?_
                    refine rj_if_eq (pc := 129) (tgt := 135) dX11_spells_129 (by decide) (by first | assumption | exact b01_r | exact bz_r | omega | (constructor <;> omega) | exact hM _ | exact hPo _ | exact hTa _ | exact hRo _) (fun c_129 => ?_) (fun c_129 => ?_)
                    · try simp only [b01_0, bz_0, Classical.not_not] at c_129
                      refine r_aload_n (pc := 135) dX11_spells_135 rfl (by first | rfl | exact isRefV_rf _) ?_
                      refine rm_getf (pc := 136) dX11_spells_136 fX11_33 (by assumption) rfl ?_
                      refine r_aload_n (pc := 139) dX11_spells_139 rfl (by first | rfl | exact isRefV_rf _) ?_
                      refine rm_getf (pc := 140) dX11_spells_140 fX11_298 (by assumption) rfl ?_
                      refine r_iload (pc := 143) dX11_spells_143 rfl ?_
                      first | refine rm_iast6 (pc := 145) (j := w) dX11_spells_145 (by assumption) (by first | assumption | exact b01_r | exact bz_r | omega | (constructor <;> omega) | exact hM _ | exact hPo _ | exact hTa _ | exact hRo _) (by first | assumption | exact b01_r | exact bz_r | omega | (constructor <;> omega) | exact hM _ | exact hPo _ | exact hTa _ | exact hRo _) (by first | assumption | exact b01_r | exact bz_r | omega | (constructor <;> omega) | exact hM _ | exact hPo _ | exact hTa _ | exact hRo _) (by omega) (fun h_145 hB_145 hS_145 => ?_)
                      refine r_aload_n (pc := 146) dX11_spells_146 rfl (by first | rfl | exact isRefV_rf _) ?_
                      refine r_dup (pc := 147) dX11_spells_147 (by first | rfl | (cases ‹Option Nat› <;> rfl)) ?_
                      refine rm_getf (pc := 148) dX11_spells_148 fX11_298 (by assumption) rfl ?_
                      refine rj_iconst (pc := 151) dX11_spells_151 ?_
                      refine rj_iadd (pc := 152) dX11_spells_152 ?_
                      refine rm_putf (pc := 153) dX11_spells_153 fX11_298 (by assumption) rfl rfl (Nat.le_of_ble_eq_true rfl) (fun h_153 hB_153 hS_153 => ?_)
                      dsimp only [List.set, mFs] at hB_153
                      refine rj_iinc (pc := 156) dX11_spells_156 (Nat.le_of_ble_eq_true rfl) rfl ?_
                      dsimp only [lsSt, List.set, mLs, mEnt]
                      refine r_goto (pc := 159) (tgt := 10) dX11_spells_159 (by decide) ?_
                      rw [show ((p : Int) + 1) = ((p + 1 : Nat) : Int) by omega]
                      rw [spS, if_neg (fun g => c_40 g.1), if_neg (fun g => absurd g.2.2.1 (by omega))]
                      rw [show decide (dgP (pool p)) = true from decide_eq_true c_102]
                      have y := ih (p + 1) true (updI pap w (pool p)) (w + 1) _ (some (.int (J (pool p)))) (some (.int (J (b01 (48 ≤ pool p ∧ pool p ≤ 57))))) (some (.int (J 0))) (by omega) (by omega) (by omega) (by rw [show ((w + 1 : Nat) : Int) = (w : Int) + 1 by omega]; exact hB_153)
                      rw [show bz true = 1 from rfl] at y
                      exact y.mono (fun v h' q => ⟨q.1, q.2.1, (hS_145.trans hS_153).trans q.2.2⟩)
                    · try simp only [b01_0, bz_0, Classical.not_not] at c_129
                      all_goals (first | exact absurd trivial ‹¬ True› | exact absurd c_59 c_113 | exact absurd c_106 c_63 | (exfalso; omega))
                  · refine r_iload (pc := 116) dX11_spells_116 rfl ?_
                    refine rj_if_ne (pc := 118) (tgt := 125) dX11_spells_118 (by decide) (by first | assumption | exact b01_r | exact bz_r | omega | (constructor <;> omega) | exact hM _ | exact hPo _ | exact hTa _ | exact hRo _) (fun c_118 => ?_) (fun c_118 => ?_)
                    · try simp only [b01_0, bz_0, Classical.not_not] at c_118
                      all_goals (first | exact absurd trivial ‹¬ True› | exact absurd c_59 c_113 | exact absurd c_106 c_63 | (exfalso; omega))
                    · try simp only [b01_0, bz_0, Classical.not_not] at c_118
                      refine rj_iconst (pc := 121) dX11_spells_121 ?_
                      refine r_goto (pc := 122) (tgt := 126) dX11_spells_122 (by decide) ?_
                      refine r_istore_n (pc := 126) dX11_spells_126 (Nat.le_of_ble_eq_true rfl) ?_
                      dsimp only [lsSt, List.set, mLs, mEnt]
                      refine r_iload (pc := 127) dX11_spells_127 rfl ?_
                      refine rj_if_eq (pc := 129) (tgt := 135) dX11_spells_129 (by decide) (by first | assumption | exact b01_r | exact bz_r | omega | (constructor <;> omega) | exact hM _ | exact hPo _ | exact hTa _ | exact hRo _) (fun c_129 => ?_) (fun c_129 => ?_)
                      · try simp only [b01_0, bz_0, Classical.not_not] at c_129
                        refine r_aload_n (pc := 135) dX11_spells_135 rfl (by first | rfl | exact isRefV_rf _) ?_
                        refine rm_getf (pc := 136) dX11_spells_136 fX11_33 (by assumption) rfl ?_
                        refine r_aload_n (pc := 139) dX11_spells_139 rfl (by first | rfl | exact isRefV_rf _) ?_
                        refine rm_getf (pc := 140) dX11_spells_140 fX11_298 (by assumption) rfl ?_
                        refine r_iload (pc := 143) dX11_spells_143 rfl ?_
                        first | refine rm_iast6 (pc := 145) (j := w) dX11_spells_145 (by assumption) (by first | assumption | exact b01_r | exact bz_r | omega | (constructor <;> omega) | exact hM _ | exact hPo _ | exact hTa _ | exact hRo _) (by first | assumption | exact b01_r | exact bz_r | omega | (constructor <;> omega) | exact hM _ | exact hPo _ | exact hTa _ | exact hRo _) (by first | assumption | exact b01_r | exact bz_r | omega | (constructor <;> omega) | exact hM _ | exact hPo _ | exact hTa _ | exact hRo _) (by omega) (fun h_145 hB_145 hS_145 => ?_)
                        refine r_aload_n (pc := 146) dX11_spells_146 rfl (by first | rfl | exact isRefV_rf _) ?_
                        refine r_dup (pc := 147) dX11_spells_147 (by first | rfl | (cases ‹Option Nat› <;> rfl)) ?_
                        refine rm_getf (pc := 148) dX11_spells_148 fX11_298 (by assumption) rfl ?_
                        refine rj_iconst (pc := 151) dX11_spells_151 ?_
                        refine rj_iadd (pc := 152) dX11_spells_152 ?_
                        refine rm_putf (pc := 153) dX11_spells_153 fX11_298 (by assumption) rfl rfl (Nat.le_of_ble_eq_true rfl) (fun h_153 hB_153 hS_153 => ?_)
                        dsimp only [List.set, mFs] at hB_153
                        refine rj_iinc (pc := 156) dX11_spells_156 (Nat.le_of_ble_eq_true rfl) rfl ?_
                        dsimp only [lsSt, List.set, mLs, mEnt]
                        refine r_goto (pc := 159) (tgt := 10) dX11_spells_159 (by decide) ?_
                        rw [show ((p : Int) + 1) = ((p + 1 : Nat) : Int) by omega]
                        rw [spS, if_neg (fun g => c_40 g.1), if_neg (fun g => absurd g.2.2.1 (by omega))]
                        rw [show decide (dgP (pool p)) = true from decide_eq_true c_102]
                        have y := ih (p + 1) true (updI pap w (pool p)) (w + 1) _ (some (.int (J (pool p)))) (some (.int (J (b01 (48 ≤ pool p ∧ pool p ≤ 57))))) (some (.int (J 0))) (by omega) (by omega) (by omega) (by rw [show ((w + 1 : Nat) : Int) = (w : Int) + 1 by omega]; exact hB_153)
                        rw [show bz true = 1 from rfl] at y
                        exact y.mono (fun v h' q => ⟨q.1, q.2.1, (hS_145.trans hS_153).trans q.2.2⟩)
                      · try simp only [b01_0, bz_0, Classical.not_not] at c_129
                        all_goals (first | exact absurd trivial ‹¬ True› | exact absurd c_59 c_113 | exact absurd c_106 c_63 | (exfalso; omega))
            · refine r_aload_n (pc := 74) dX11_spells_74 rfl (by first | rfl | exact isRefV_rf _) ?_
              refine rm_getf (pc := 75) dX11_spells_75 fX11_21 (by assumption) rfl ?_
              refine r_iload (pc := 78) dX11_spells_78 rfl ?_
              refine rj_iconst (pc := 80) dX11_spells_80 ?_
              refine rj_iadd (pc := 81) dX11_spells_81 ?_
              refine rj_iald (pc := 82) (j := p + 1) dX11_spells_82 (by first | exact isM.g0 (by assumption) | exact isM.g3 (by assumption) | exact isM.g4 (by assumption) | exact isM.g8 (by assumption) | exact isM.g7 (by assumption) | exact isM.g6 (by assumption) | exact isM.g5 (by assumption) | exact isM.g1 (by assumption) | exact isM.g2 (by assumption)) (by first | assumption | exact b01_r | exact bz_r | omega | (constructor <;> omega) | exact hM _ | exact hPo _ | exact hTa _ | exact hRo _) (by first | assumption | exact b01_r | exact bz_r | omega | (constructor <;> omega) | exact hM _ | exact hPo _ | exact hTa _ | exact hRo _) (by first | assumption | exact b01_r | exact bz_r | omega | (constructor <;> omega) | exact hM _ | exact hPo _ | exact hTa _ | exact hRo _) (by omega) ?_
              refine rj_bipush (pc := 83) dX11_spells_83 (by decide +kernel) ?_
              refine rj_bipush (pc := 85) dX11_spells_85 (by decide +kernel) ?_
              refine r_callS3 (pc := 87) dX11_spells_87 qX11_isIn kX11_46 sX11_isIn (Nat.le_of_ble_eq_true rfl) ((m_isIn 0 rp1 (by decide) (by decide)).deeper (by omega)) (fun v_87 h_87 q_87 => ?_)
              obtain ⟨rfl, rfl⟩ := q_87
              refine rj_if_eq (pc := 90) (tgt := 97) dX11_spells_90 (by decide) (by first | assumption | exact b01_r | exact bz_r | omega | (constructor <;> omega) | exact hM _ | exact hPo _ | exact hTa _ | exact hRo _) (fun c_90 => ?_) (fun c_90 => ?_)
              · try simp only [b01_0, bz_0, Classical.not_not] at c_90
                refine rj_iconst (pc := 97) dX11_spells_97 ?_
                refine r_istore (pc := 98) dX11_spells_98 (Nat.le_of_ble_eq_true rfl) ?_
                dsimp only [lsSt, List.set, mLs, mEnt]
                refine r_iload (pc := 100) dX11_spells_100 rfl ?_
                refine rj_if_eq (pc := 102) (tgt := 125) dX11_spells_102 (by decide) (by first | assumption | exact b01_r | exact bz_r | omega | (constructor <;> omega) | exact hM _ | exact hPo _ | exact hTa _ | exact hRo _) (fun c_102 => ?_) (fun c_102 => ?_)
                · try simp only [b01_0, bz_0, Classical.not_not] at c_102
                  refine rj_iconst (pc := 125) dX11_spells_125 ?_
                  refine r_istore_n (pc := 126) dX11_spells_126 (Nat.le_of_ble_eq_true rfl) ?_
                  dsimp only [lsSt, List.set, mLs, mEnt]
                  refine r_iload (pc := 127) dX11_spells_127 rfl ?_
                  refine rj_if_eq (pc := 129) (tgt := 135) dX11_spells_129 (by decide) (by first | assumption | exact b01_r | exact bz_r | omega | (constructor <;> omega) | exact hM _ | exact hPo _ | exact hTa _ | exact hRo _) (fun c_129 => ?_) (fun c_129 => ?_)
                  · try simp only [b01_0, bz_0, Classical.not_not] at c_129
                    refine r_aload_n (pc := 135) dX11_spells_135 rfl (by first | rfl | exact isRefV_rf _) ?_
                    refine rm_getf (pc := 136) dX11_spells_136 fX11_33 (by assumption) rfl ?_
                    refine r_aload_n (pc := 139) dX11_spells_139 rfl (by first | rfl | exact isRefV_rf _) ?_
                    refine rm_getf (pc := 140) dX11_spells_140 fX11_298 (by assumption) rfl ?_
                    refine r_iload (pc := 143) dX11_spells_143 rfl ?_
                    first | refine rm_iast6 (pc := 145) (j := w) dX11_spells_145 (by assumption) (by first | assumption | exact b01_r | exact bz_r | omega | (constructor <;> omega) | exact hM _ | exact hPo _ | exact hTa _ | exact hRo _) (by first | assumption | exact b01_r | exact bz_r | omega | (constructor <;> omega) | exact hM _ | exact hPo _ | exact hTa _ | exact hRo _) (by first | assumption | exact b01_r | exact bz_r | omega | (constructor <;> omega) | exact hM _ | exact hPo _ | exact hTa _ | exact hRo _) (by omega) (fun h_145 hB_145 hS_145 => ?_)
                    refine r_aload_n (pc := 146) dX11_spells_146 rfl (by first | rfl | exact isRefV_rf _) ?_
                    refine r_dup (pc := 147) dX11_spells_147 (by first | rfl | (cases ‹Option Nat› <;> rfl)) ?_
                    refine rm_getf (pc := 148) dX11_spells_148 fX11_298 (by assumption) rfl ?_
                    refine rj_iconst (pc := 151) dX11_spells_151 ?_
                    refine rj_iadd (pc := 152) dX11_spells_152 ?_
                    refine rm_putf (pc := 153) dX11_spells_153 fX11_298 (by assumption) rfl rfl (Nat.le_of_ble_eq_true rfl) (fun h_153 hB_153 hS_153 => ?_)
                    dsimp only [List.set, mFs] at hB_153
                    refine rj_iinc (pc := 156) dX11_spells_156 (Nat.le_of_ble_eq_true rfl) rfl ?_
                    dsimp only [lsSt, List.set, mLs, mEnt]
                    refine r_goto (pc := 159) (tgt := 10) dX11_spells_159 (by decide) ?_
                    rw [show ((p : Int) + 1) = ((p + 1 : Nat) : Int) by omega]
                    rw [spS, if_neg (fun g => c_40 g.1), if_neg (fun g => c_90 g.2.2.2)]
                    rw [show decide (dgP (pool p)) = false from decide_eq_false c_102]
                    have y := ih (p + 1) false (updI pap w (pool p)) (w + 1) _ (some (.int (J (pool p)))) (some (.int (J (b01 (48 ≤ pool p ∧ pool p ≤ 57))))) (some (.int (J 0))) (by omega) (by omega) (by omega) (by rw [show ((w + 1 : Nat) : Int) = (w : Int) + 1 by omega]; exact hB_153)
                    rw [show bz false = 0 from rfl] at y
                    exact y.mono (fun v h' q => ⟨q.1, q.2.1, (hS_145.trans hS_153).trans q.2.2⟩)
                  · try simp only [b01_0, bz_0, Classical.not_not] at c_129
                    all_goals (first | exact absurd trivial ‹¬ True› | exact absurd c_59 c_113 | exact absurd c_106 c_63 | (exfalso; omega))
                · try simp only [b01_0, bz_0, Classical.not_not] at c_102
                  refine r_iload_n (pc := 105) dX11_spells_105 rfl ?_
                  refine rj_if_ne (pc := 106) (tgt := 121) dX11_spells_106 (by decide) (by first | assumption | exact b01_r | exact bz_r | omega | (constructor <;> omega) | exact hM _ | exact hPo _ | exact hTa _ | exact hRo _) (fun c_106 => ?_) (fun c_106 => ?_)
                  · try simp only [b01_0, bz_0, Classical.not_not] at c_106
                    refine rj_iconst (pc := 121) dX11_spells_121 ?_
                    refine r_goto (pc := 122) (tgt := 126) dX11_spells_122 (by decide) ?_
                    refine r_istore_n (pc := 126) dX11_spells_126 (Nat.le_of_ble_eq_true rfl) ?_
                    dsimp only [lsSt, List.set, mLs, mEnt]
                    refine r_iload (pc := 127) dX11_spells_127 rfl ?_
                    refine rj_if_eq (pc := 129) (tgt := 135) dX11_spells_129 (by decide) (by first | assumption | exact b01_r | exact bz_r | omega | (constructor <;> omega) | exact hM _ | exact hPo _ | exact hTa _ | exact hRo _) (fun c_129 => ?_) (fun c_129 => ?_)
                    · try simp only [b01_0, bz_0, Classical.not_not] at c_129
                      refine r_aload_n (pc := 135) dX11_spells_135 rfl (by first | rfl | exact isRefV_rf _) ?_
                      refine rm_getf (pc := 136) dX11_spells_136 fX11_33 (by assumption) rfl ?_
                      refine r_aload_n (pc := 139) dX11_spells_139 rfl (by first | rfl | exact isRefV_rf _) ?_
                      refine rm_getf (pc := 140) dX11_spells_140 fX11_298 (by assumption) rfl ?_
                      refine r_iload (pc := 143) dX11_spells_143 rfl ?_
                      first | refine rm_iast6 (pc := 145) (j := w) dX11_spells_145 (by assumption) (by first | assumption | exact b01_r | exact bz_r | omega | (constructor <;> omega) | exact hM _ | exact hPo _ | exact hTa _ | exact hRo _) (by first | assumption | exact b01_r | exact bz_r | omega | (constructor <;> omega) | exact hM _ | exact hPo _ | exact hTa _ | exact hRo _) (by first | assumption | exact b01_r | exact bz_r | omega | (constructor <;> omega) | exact hM _ | exact hPo _ | exact hTa _ | exact hRo _) (by omega) (fun h_145 hB_145 hS_145 => ?_)
                      refine r_aload_n (pc := 146) dX11_spells_146 rfl (by first | rfl | exact isRefV_rf _) ?_
                      refine r_dup (pc := 147) dX11_spells_147 (by first | rfl | (cases ‹Option Nat› <;> rfl)) ?_
                      refine rm_getf (pc := 148) dX11_spells_148 fX11_298 (by assumption) rfl ?_
                      refine rj_iconst (pc := 151) dX11_spells_151 ?_
                      refine rj_iadd (pc := 152) dX11_spells_152 ?_
                      refine rm_putf (pc := 153) dX11_spells_153 fX11_298 (by assumption) rfl rfl (Nat.le_of_ble_eq_true rfl) (fun h_153 hB_153 hS_153 => ?_)
                      dsimp only [List.set, mFs] at hB_153
                      refine rj_iinc (pc := 156) dX11_spells_156 (Nat.le_of_ble_eq_true rfl) rfl ?_
                      dsimp only [lsSt, List.set, mLs, mEnt]
                      refine r_goto (pc := 159) (tgt := 10) dX11_spells_159 (by decide) ?_
                      rw [show ((p : Int) + 1) = ((p + 1 : Nat) : Int) by omega]
                      rw [spS, if_neg (fun g => c_40 g.1), if_neg (fun g => c_90 g.2.2.2)]
                      rw [show decide (dgP (pool p)) = true from decide_eq_true c_102]
                      have y := ih (p + 1) true (updI pap w (pool p)) (w + 1) _ (some (.int (J (pool p)))) (some (.int (J (b01 (48 ≤ pool p ∧ pool p ≤ 57))))) (some (.int (J 0))) (by omega) (by omega) (by omega) (by rw [show ((w + 1 : Nat) : Int) = (w : Int) + 1 by omega]; exact hB_153)
                      rw [show bz true = 1 from rfl] at y
                      exact y.mono (fun v h' q => ⟨q.1, q.2.1, (hS_145.trans hS_153).trans q.2.2⟩)
                    · try simp only [b01_0, bz_0, Classical.not_not] at c_129
                      all_goals (first | exact absurd trivial ‹¬ True› | exact absurd c_59 c_113 | exact absurd c_106 c_63 | (exfalso; omega))
                  · try simp only [b01_0, bz_0, Classical.not_not] at c_106
                    refine r_iload (pc := 109) dX11_spells_109 rfl ?_
                    refine rj_bipush (pc := 111) dX11_spells_111 (by decide +kernel) ?_
                    refine rj_icmp_ne (pc := 113) (tgt := 121) dX11_spells_113 (by decide) (by first | assumption | exact b01_r | exact bz_r | omega | (constructor <;> omega) | exact hM _ | exact hPo _ | exact hTa _ | exact hRo _) (by first | assumption | exact b01_r | exact bz_r | omega | (constructor <;> omega) | exact hM _ | exact hPo _ | exact hTa _ | exact hRo _) (fun c_113 => ?_) (fun c_113 => ?_)
                    · refine rj_iconst (pc := 121) dX11_spells_121 ?_
                      refine r_goto (pc := 122) (tgt := 126) dX11_spells_122 (by decide) ?_
                      refine r_istore_n (pc := 126) dX11_spells_126 (Nat.le_of_ble_eq_true rfl) ?_
                      dsimp only [lsSt, List.set, mLs, mEnt]
                      refine r_iload (pc := 127) dX11_spells_127 rfl ?_
                      refine rj_if_eq (pc := 129) (tgt := 135) dX11_spells_129 (by decide) (by first | assumption | exact b01_r | exact bz_r | omega | (constructor <;> omega) | exact hM _ | exact hPo _ | exact hTa _ | exact hRo _) (fun c_129 => ?_) (fun c_129 => ?_)
                      · try simp only [b01_0, bz_0, Classical.not_not] at c_129
                        refine r_aload_n (pc := 135) dX11_spells_135 rfl (by first | rfl | exact isRefV_rf _) ?_
                        refine rm_getf (pc := 136) dX11_spells_136 fX11_33 (by assumption) rfl ?_
                        refine r_aload_n (pc := 139) dX11_spells_139 rfl (by first | rfl | exact isRefV_rf _) ?_
                        refine rm_getf (pc := 140) dX11_spells_140 fX11_298 (by assumption) rfl ?_
                        refine r_iload (pc := 143) dX11_spells_143 rfl ?_
                        first | refine rm_iast6 (pc := 145) (j := w) dX11_spells_145 (by assumption) (by first | assumption | exact b01_r | exact bz_r | omega | (constructor <;> omega) | exact hM _ | exact hPo _ | exact hTa _ | exact hRo _) (by first | assumption | exact b01_r | exact bz_r | omega | (constructor <;> omega) | exact hM _ | exact hPo _ | exact hTa _ | exact hRo _) (by first | assumption | exact b01_r | exact bz_r | omega | (constructor <;> omega) | exact hM _ | exact hPo _ | exact hTa _ | exact hRo _) (by omega) (fun h_145 hB_145 hS_145 => ?_)
                        refine r_aload_n (pc := 146) dX11_spells_146 rfl (by first | rfl | exact isRefV_rf _) ?_
                        refine r_dup (pc := 147) dX11_spells_147 (by first | rfl | (cases ‹Option Nat› <;> rfl)) ?_
                        refine rm_getf (pc := 148) dX11_spells_148 fX11_298 (by assumption) rfl ?_
                        refine rj_iconst (pc := 151) dX11_spells_151 ?_
                        refine rj_iadd (pc := 152) dX11_spells_152 ?_
                        refine rm_putf (pc := 153) dX11_spells_153 fX11_298 (by assumption) rfl rfl (Nat.le_of_ble_eq_true rfl) (fun h_153 hB_153 hS_153 => ?_)
                        dsimp only [List.set, mFs] at hB_153
                        refine rj_iinc (pc := 156) dX11_spells_156 (Nat.le_of_ble_eq_true rfl) rfl ?_
                        dsimp only [lsSt, List.set, mLs, mEnt]
                        refine r_goto (pc := 159) (tgt := 10) dX11_spells_159 (by decide) ?_
                        rw [show ((p : Int) + 1) = ((p + 1 : Nat) : Int) by omega]
                        rw [spS, if_neg (fun g => c_40 g.1), if_neg (fun g => c_90 g.2.2.2)]
                        rw [show decide (dgP (pool p)) = true from decide_eq_true c_102]
                        have y := ih (p + 1) true (updI pap w (pool p)) (w + 1) _ (some (.int (J (pool p)))) (some (.int (J (b01 (48 ≤ pool p ∧ pool p ≤ 57))))) (some (.int (J 0))) (by omega) (by omega) (by omega) (by rw [show ((w + 1 : Nat) : Int) = (w : Int) + 1 by omega]; exact hB_153)
                        rw [show bz true = 1 from rfl] at y
                        exact y.mono (fun v h' q => ⟨q.1, q.2.1, (hS_145.trans hS_153).trans q.2.2⟩)
                      · try simp only [b01_0, bz_0, Classical.not_not] at c_129
                        all_goals (first | exact absurd trivial ‹¬ True› | exact absurd c_59 c_113 | exact absurd c_106 c_63 | (exfalso; omega))
                    · refine r_iload (pc := 116) dX11_spells_116 rfl ?_
                      refine rj_if_ne (pc := 118) (tgt := 125) dX11_spells_118 (by decide) (by first | assumption | exact b01_r | exact bz_r | omega | (constructor <;> omega) | exact hM _ | exact hPo _ | exact hTa _ | exact hRo _) (fun c_118 => ?_) (fun c_118 => ?_)
                      · try simp only [b01_0, bz_0, Classical.not_not] at c_118
                        all_goals (first | exact absurd trivial ‹¬ True› | exact absurd c_59 c_113 | exact absurd c_106 c_63 | (exfalso; omega))
                      · try simp only [b01_0, bz_0, Classical.not_not] at c_118
                        refine rj_iconst (pc := 121) dX11_spells_121 ?_
                        refine r_goto (pc := 122) (tgt := 126) dX11_spells_122 (by decide) ?_
                        refine r_istore_n (pc := 126) dX11_spells_126 (Nat.le_of_ble_eq_true rfl) ?_
                        dsimp only [lsSt, List.set, mLs, mEnt]
                        refine r_iload (pc := 127) dX11_spells_127 rfl ?_
                        refine rj_if_eq (pc := 129) (tgt := 135) dX11_spells_129 (by decide) (by first | assumption | exact b01_r | exact bz_r | omega | (constructor <;> omega) | exact hM _ | exact hPo _ | exact hTa _ | exact hRo _) (fun c_129 => ?_) (fun c_129 => ?_)
                        · try simp only [b01_0, bz_0, Classical.not_not] at c_129
                          refine r_aload_n (pc := 135) dX11_spells_135 rfl (by first | rfl | exact isRefV_rf _) ?_
                          refine rm_getf (pc := 136) dX11_spells_136 fX11_33 (by assumption) rfl ?_
                          refine r_aload_n (pc := 139) dX11_spells_139 rfl (by first | rfl | exact isRefV_rf _) ?_
                          refine rm_getf (pc := 140) dX11_spells_140 fX11_298 (by assumption) rfl ?_
                          refine r_iload (pc := 143) dX11_spells_143 rfl ?_
                          first | refine rm_iast6 (pc := 145) (j := w) dX11_spells_145 (by assumption) (by first | assumption | exact b01_r | exact bz_r | omega | (constructor <;> omega) | exact hM _ | exact hPo _ | exact hTa _ | exact hRo _) (by first | assumption | exact b01_r | exact bz_r | omega | (constructor <;> omega) | exact hM _ | exact hPo _ | exact hTa _ | exact hRo _) (by first | assumption | exact b01_r | exact bz_r | omega | (constructor <;> omega) | exact hM _ | exact hPo _ | exact hTa _ | exact hRo _) (by omega) (fun h_145 hB_145 hS_145 => ?_)
                          refine r_aload_n (pc := 146) dX11_spells_146 rfl (by first | rfl | exact isRefV_rf _) ?_
                          refine r_dup (pc := 147) dX11_spells_147 (by first | rfl | (cases ‹Option Nat› <;> rfl)) ?_
                          refine rm_getf (pc := 148) dX11_spells_148 fX11_298 (by assumption) rfl ?_
                          refine rj_iconst (pc := 151) dX11_spells_151 ?_
                          refine rj_iadd (pc := 152) dX11_spells_152 ?_
                          refine rm_putf (pc := 153) dX11_spells_153 fX11_298 (by assumption) rfl rfl (Nat.le_of_ble_eq_true rfl) (fun h_153 hB_153 hS_153 => ?_)
                          dsimp only [List.set, mFs] at hB_153
                          refine rj_iinc (pc := 156) dX11_spells_156 (Nat.le_of_ble_eq_true rfl) rfl ?_
                          dsimp only [lsSt, List.set, mLs, mEnt]
                          refine r_goto (pc := 159) (tgt := 10) dX11_spells_159 (by decide) ?_
                          rw [show ((p : Int) + 1) = ((p + 1 : Nat) : Int) by omega]
                          rw [spS, if_neg (fun g => c_40 g.1), if_neg (fun g => c_90 g.2.2.2)]
                          rw [show decide (dgP (pool p)) = true from decide_eq_true c_102]
                          have y := ih (p + 1) true (updI pap w (pool p)) (w + 1) _ (some (.int (J (pool p)))) (some (.int (J (b01 (48 ≤ pool p ∧ pool p ≤ 57))))) (some (.int (J 0))) (by omega) (by omega) (by omega) (by rw [show ((w + 1 : Nat) : Int) = (w : Int) + 1 by omega]; exact hB_153)
                          rw [show bz true = 1 from rfl] at y
                          exact y.mono (fun v h' q => ⟨q.1, q.2.1, (hS_145.trans hS_153).trans q.2.2⟩)
                        · try simp only [b01_0, bz_0, Classical.not_not] at c_129
                          all_goals (first | exact absurd trivial ‹¬ True› | exact absurd c_59 c_113 | exact absurd c_106 c_63 | (exfalso; omega))
              · try simp only [b01_0, bz_0, Classical.not_not] at c_90
                refine rj_iconst (pc := 93) dX11_spells_93 ?_
                refine r_goto (pc := 94) (tgt := 98) dX11_spells_94 (by decide) ?_
                refine r_istore (pc := 98) dX11_spells_98 (Nat.le_of_ble_eq_true rfl) ?_
                dsimp only [lsSt, List.set, mLs, mEnt]
                refine r_iload (pc := 100) dX11_spells_100 rfl ?_
                refine rj_if_eq (pc := 102) (tgt := 125) dX11_spells_102 (by decide) (by first | assumption | exact b01_r | exact bz_r | omega | (constructor <;> omega) | exact hM _ | exact hPo _ | exact hTa _ | exact hRo _) (fun c_102 => ?_) (fun c_102 => ?_)
                · try simp only [b01_0, bz_0, Classical.not_not] at c_102
                  all_goals (first | exact absurd trivial ‹¬ True› | exact absurd c_59 c_113 | exact absurd c_106 c_63 | (exfalso; omega))
                · try simp only [b01_0, bz_0, Classical.not_not] at c_102
                  refine r_iload_n (pc := 105) dX11_spells_105 rfl ?_
                  refine rj_if_ne (pc := 106) (tgt := 121) dX11_spells_106 (by decide) (by first | assumption | exact b01_r | exact bz_r | omega | (constructor <;> omega) | exact hM _ | exact hPo _ | exact hTa _ | exact hRo _) (fun c_106 => ?_) (fun c_106 => ?_)
                  · try simp only [b01_0, bz_0, Classical.not_not] at c_106
                    all_goals (first | exact absurd trivial ‹¬ True› | exact absurd c_59 c_113 | exact absurd c_106 c_63 | (exfalso; omega))
                  · try simp only [b01_0, bz_0, Classical.not_not] at c_106
                    refine r_iload (pc := 109) dX11_spells_109 rfl ?_
                    refine rj_bipush (pc := 111) dX11_spells_111 (by decide +kernel) ?_
                    refine rj_icmp_ne (pc := 113) (tgt := 121) dX11_spells_113 (by decide) (by first | assumption | exact b01_r | exact bz_r | omega | (constructor <;> omega) | exact hM _ | exact hPo _ | exact hTa _ | exact hRo _) (by first | assumption | exact b01_r | exact bz_r | omega | (constructor <;> omega) | exact hM _ | exact hPo _ | exact hTa _ | exact hRo _) (fun c_113 => ?_) (fun c_113 => ?_)
                    · all_goals (first | exact absurd trivial ‹¬ True› | exact absurd c_59 c_113 | exact absurd c_106 c_63 | (exfalso; omega))
                    · refine r_iload (pc := 116) dX11_spells_116 rfl ?_
                      refine rj_if_ne (pc := 118) (tgt := 125) dX11_spells_118 (by decide) (by first | assumption | exact b01_r | exact bz_r | omega | (constructor <;> omega) | exact hM _ | exact hPo _ | exact hTa _ | exact hRo _) (fun c_118 => ?_) (fun c_118 => ?_)
                      · try simp only [b01_0, bz_0, Classical.not_not] at c_118
                        refine rj_iconst (pc := 125) dX11_spells_125 ?_
                        refine r_istore_n (pc := 126) dX11_spells_126 (Nat.le_of_ble_eq_true rfl) ?_
                        dsimp only [lsSt, List.set, mLs, mEnt]
                        refine r_iload (pc := 127) dX11_spells_127 rfl ?_
                        refine rj_if_eq (pc := 129) (tgt := 135) dX11_spells_129 (by decide) (by first | assumption | exact b01_r | exact bz_r | omega | (constructor <;> omega) | exact hM _ | exact hPo _ | exact hTa _ | exact hRo _) (fun c_129 => ?_) (fun c_129 => ?_)
                        · try simp only [b01_0, bz_0, Classical.not_not] at c_129
                          all_goals (first | exact absurd trivial ‹¬ True› | exact absurd c_59 c_113 | exact absurd c_106 c_63 | (exfalso; omega))
                        · try simp only [b01_0, bz_0, Classical.not_not] at c_129
                          refine r_goto (pc := 132) (tgt := 156) dX11_spells_132 (by decide) ?_
                          refine rj_iinc (pc := 156) dX11_spells_156 (Nat.le_of_ble_eq_true rfl) rfl ?_
                          dsimp only [lsSt, List.set, mLs, mEnt]
                          refine r_goto (pc := 159) (tgt := 10) dX11_spells_159 (by decide) ?_
                          rw [show ((p : Int) + 1) = ((p + 1 : Nat) : Int) by omega]
                          rw [spS, if_neg (fun g => c_40 g.1), if_pos ⟨c_59, by simpa using c_63, by omega, c_90⟩]
                          have y := ih (p + 1) false pap w _ (some (.int (J (pool p)))) (some (.int (J (b01 (48 ≤ pool p ∧ pool p ≤ 57))))) (some (.int (J 1))) (by omega) (by omega) (by omega) hB0
                          rw [show bz false = 0 from rfl] at y
                          exact y
                      · try simp only [b01_0, bz_0, Classical.not_not] at c_118
                        all_goals (first | exact absurd trivial ‹¬ True› | exact absurd c_59 c_113 | exact absurd c_106 c_63 | (exfalso; omega))
      · refine r_aload_n (pc := 43) dX11_spells_43 rfl (by first | rfl | exact isRefV_rf _) ?_
        refine r_iload (pc := 44) dX11_spells_44 rfl ?_
        refine r_callV1 (pc := 46) dX11_spells_46 qX11_numberAt kX11_171 vX11_numberAt (by exact isM.gx (by assumption)) rfl rfl (Nat.le_of_ble_eq_true rfl) (by have y := m_numberAt (G := G) (l := l) d hB0 hPo (p := p) (n := 20) (by omega) (by rw [if_pos c_40]; exact (hmin p (by omega) (by omega) c_40).1); exact y.deeper (by omega)) (fun v_46 h_46 q_46 => ?_)
        obtain ⟨rfl, rfl⟩ := q_46
        have rn := (hmin p (by omega) (by omega) c_40).2
        refine rj_if_ne (pc := 49) (tgt := 55) dX11_spells_49 (by decide) (by first | assumption | exact b01_r | exact bz_r | omega | (constructor <;> omega) | exact hM _ | exact hPo _ | exact hTa _ | exact hRo _) (fun c_49 => ?_) (fun c_49 => ?_)
        · try simp only [b01_0, bz_0, Classical.not_not] at c_49
          refine r_iload (pc := 55) dX11_spells_55 rfl ?_
          refine rj_bipush (pc := 57) dX11_spells_57 (by decide +kernel) ?_
          refine rj_icmp_ne (pc := 59) (tgt := 97) dX11_spells_59 (by decide) (by first | assumption | exact b01_r | exact bz_r | omega | (constructor <;> omega) | exact hM _ | exact hPo _ | exact hTa _ | exact hRo _) (by first | assumption | exact b01_r | exact bz_r | omega | (constructor <;> omega) | exact hM _ | exact hPo _ | exact hTa _ | exact hRo _) (fun c_59 => ?_) (fun c_59 => ?_)
          · refine rj_iconst (pc := 97) dX11_spells_97 ?_
            refine r_istore (pc := 98) dX11_spells_98 (Nat.le_of_ble_eq_true rfl) ?_
            dsimp only [lsSt, List.set, mLs, mEnt]
            refine r_iload (pc := 100) dX11_spells_100 rfl ?_
            refine rj_if_eq (pc := 102) (tgt := 125) dX11_spells_102 (by decide) (by first | assumption | exact b01_r | exact bz_r | omega | (constructor <;> omega) | exact hM _ | exact hPo _ | exact hTa _ | exact hRo _) (fun c_102 => ?_) (fun c_102 => ?_)
            · try simp only [b01_0, bz_0, Classical.not_not] at c_102
              refine rj_iconst (pc := 125) dX11_spells_125 ?_
              refine r_istore_n (pc := 126) dX11_spells_126 (Nat.le_of_ble_eq_true rfl) ?_
              dsimp only [lsSt, List.set, mLs, mEnt]
              refine r_iload (pc := 127) dX11_spells_127 rfl ?_
              refine rj_if_eq (pc := 129) (tgt := 135) dX11_spells_129 (by decide) (by first | assumption | exact b01_r | exact bz_r | omega | (constructor <;> omega) | exact hM _ | exact hPo _ | exact hTa _ | exact hRo _) (fun c_129 => ?_) (fun c_129 => ?_)
              · try simp only [b01_0, bz_0, Classical.not_not] at c_129
                refine r_aload_n (pc := 135) dX11_spells_135 rfl (by first | rfl | exact isRefV_rf _) ?_
                refine rm_getf (pc := 136) dX11_spells_136 fX11_33 (by assumption) rfl ?_
                refine r_aload_n (pc := 139) dX11_spells_139 rfl (by first | rfl | exact isRefV_rf _) ?_
                refine rm_getf (pc := 140) dX11_spells_140 fX11_298 (by assumption) rfl ?_
                refine r_iload (pc := 143) dX11_spells_143 rfl ?_
                first | refine rm_iast6 (pc := 145) (j := w) dX11_spells_145 (by assumption) (by first | assumption | exact b01_r | exact bz_r | omega | (constructor <;> omega) | exact hM _ | exact hPo _ | exact hTa _ | exact hRo _) (by first | assumption | exact b01_r | exact bz_r | omega | (constructor <;> omega) | exact hM _ | exact hPo _ | exact hTa _ | exact hRo _) (by first | assumption | exact b01_r | exact bz_r | omega | (constructor <;> omega) | exact hM _ | exact hPo _ | exact hTa _ | exact hRo _) (by omega) (fun h_145 hB_145 hS_145 => ?_)
                refine r_aload_n (pc := 146) dX11_spells_146 rfl (by first | rfl | exact isRefV_rf _) ?_
                refine r_dup (pc := 147) dX11_spells_147 (by first | rfl | (cases ‹Option Nat› <;> rfl)) ?_
                refine rm_getf (pc := 148) dX11_spells_148 fX11_298 (by assumption) rfl ?_
                refine rj_iconst (pc := 151) dX11_spells_151 ?_
                refine rj_iadd (pc := 152) dX11_spells_152 ?_
                refine rm_putf (pc := 153) dX11_spells_153 fX11_298 (by assumption) rfl rfl (Nat.le_of_ble_eq_true rfl) (fun h_153 hB_153 hS_153 => ?_)
                dsimp only [List.set, mFs] at hB_153
                refine rj_iinc (pc := 156) dX11_spells_156 (Nat.le_of_ble_eq_true rfl) rfl ?_
                dsimp only [lsSt, List.set, mLs, mEnt]
                refine r_goto (pc := 159) (tgt := 10) dX11_spells_159 (by decide) ?_
                rw [show ((p : Int) + 1) = ((p + 1 : Nat) : Int) by omega]
                rw [spS, if_neg (fun g => c_49 g.2), if_neg (fun g => c_59 g.1)]
                rw [show decide (dgP (pool p)) = false from decide_eq_false c_102]
                have y := ih (p + 1) false (updI pap w (pool p)) (w + 1) _ (some (.int (J (pool p)))) (some (.int (J (b01 (48 ≤ pool p ∧ pool p ≤ 57))))) (some (.int (J 0))) (by omega) (by omega) (by omega) (by rw [show ((w + 1 : Nat) : Int) = (w : Int) + 1 by omega]; exact hB_153)
                rw [show bz false = 0 from rfl] at y
                exact y.mono (fun v h' q => ⟨q.1, q.2.1, (hS_145.trans hS_153).trans q.2.2⟩)
              · try simp only [b01_0, bz_0, Classical.not_not] at c_129
                all_goals (first | exact absurd trivial ‹¬ True› | exact absurd c_59 c_113 | exact absurd c_106 c_63 | (exfalso; omega))
            · try simp only [b01_0, bz_0, Classical.not_not] at c_102
              refine r_iload_n (pc := 105) dX11_spells_105 rfl ?_
              refine rj_if_ne (pc := 106) (tgt := 121) dX11_spells_106 (by decide) (by first | assumption | exact b01_r | exact bz_r | omega | (constructor <;> omega) | exact hM _ | exact hPo _ | exact hTa _ | exact hRo _) (fun c_106 => ?_) (fun c_106 => ?_)
              · try simp only [b01_0, bz_0, Classical.not_not] at c_106
                refine rj_iconst (pc := 121) dX11_spells_121 ?_
                refine r_goto (pc := 122) (tgt := 126) dX11_spells_122 (by decide) ?_
                refine r_istore_n (pc := 126) dX11_spells_126 (Nat.le_of_ble_eq_true rfl) ?_
                dsimp only [lsSt, List.set, mLs, mEnt]
                refine r_iload (pc := 127) dX11_spells_127 rfl ?_
                refine rj_if_eq (pc := 129) (tgt := 135) dX11_spells_129 (by decide) (by first | assumption | exact b01_r | exact bz_r | omega | (constructor <;> omega) | exact hM _ | exact hPo _ | exact hTa _ | exact hRo _) (fun c_129 => ?_) (fun c_129 => ?_)
                · try simp only [b01_0, bz_0, Classical.not_not] at c_129
                  refine r_aload_n (pc := 135) dX11_spells_135 rfl (by first | rfl | exact isRefV_rf _) ?_
                  refine rm_getf (pc := 136) dX11_spells_136 fX11_33 (by assumption) rfl ?_
                  refine r_aload_n (pc := 139) dX11_spells_139 rfl (by first | rfl | exact isRefV_rf _) ?_
                  refine rm_getf (pc := 140) dX11_spells_140 fX11_298 (by assumption) rfl ?_
                  refine r_iload (pc := 143) dX11_spells_143 rfl ?_
                  first | refine rm_iast6 (pc := 145) (j := w) dX11_spells_145 (by assumption) (by first | assumption | exact b01_r | exact bz_r | omega | (constructor <;> omega) | exact hM _ | exact hPo _ | exact hTa _ | exact hRo _) (by first | assumption | exact b01_r | exact bz_r | omega | (constructor <;> omega) | exact hM _ | exact hPo _ | exact hTa _ | exact hRo _) (by first | assumption | exact b01_r | exact bz_r | omega | (constructor <;> omega) | exact hM _ | exact hPo _ | exact hTa _ | exact hRo _) (by omega) (fun h_145 hB_145 hS_145 => ?_)
                  refine r_aload_n (pc := 146) dX11_spells_146 rfl (by first | rfl | exact isRefV_rf _) ?_
                  refine r_dup (pc := 147) dX11_spells_147 (by first | rfl | (cases ‹Option Nat› <;> rfl)) ?_
                  refine rm_getf (pc := 148) dX11_spells_148 fX11_298 (by assumption) rfl ?_
                  refine rj_iconst (pc := 151) dX11_spells_151 ?_
                  refine rj_iadd (pc := 152) dX11_spells_152 ?_
                  refine rm_putf (pc := 153) dX11_spells_153 fX11_298 (by assumption) rfl rfl (Nat.le_of_ble_eq_true rfl) (fun h_153 hB_153 hS_153 => ?_)
                  dsimp only [List.set, mFs] at hB_153
                  refine rj_iinc (pc := 156) dX11_spells_156 (Nat.le_of_ble_eq_true rfl) rfl ?_
                  dsimp only [lsSt, List.set, mLs, mEnt]
                  refine r_goto (pc := 159) (tgt := 10) dX11_spells_159 (by decide) ?_
                  rw [show ((p : Int) + 1) = ((p + 1 : Nat) : Int) by omega]
                  rw [spS, if_neg (fun g => c_49 g.2), if_neg (fun g => c_59 g.1)]
                  rw [show decide (dgP (pool p)) = true from decide_eq_true c_102]
                  have y := ih (p + 1) true (updI pap w (pool p)) (w + 1) _ (some (.int (J (pool p)))) (some (.int (J (b01 (48 ≤ pool p ∧ pool p ≤ 57))))) (some (.int (J 0))) (by omega) (by omega) (by omega) (by rw [show ((w + 1 : Nat) : Int) = (w : Int) + 1 by omega]; exact hB_153)
                  rw [show bz true = 1 from rfl] at y
                  exact y.mono (fun v h' q => ⟨q.1, q.2.1, (hS_145.trans hS_153).trans q.2.2⟩)
                · try simp only [b01_0, bz_0, Classical.not_not] at c_129
                  all_goals (first | exact absurd trivial ‹¬ True› | exact absurd c_59 c_113 | exact absurd c_106 c_63 | (exfalso; omega))
              · try simp only [b01_0, bz_0, Classical.not_not] at c_106
                refine r_iload (pc := 109) dX11_spells_109 rfl ?_
                refine rj_bipush (pc := 111) dX11_spells_111 (by decide +kernel) ?_
                refine rj_icmp_ne (pc := 113) (tgt := 121) dX11_spells_113 (by decide) (by first | assumption | exact b01_r | exact bz_r | omega | (constructor <;> omega) | exact hM _ | exact hPo _ | exact hTa _ | exact hRo _) (by first | assumption | exact b01_r | exact bz_r | omega | (constructor <;> omega) | exact hM _ | exact hPo _ | exact hTa _ | exact hRo _) (fun c_113 => ?_) (fun c_113 => ?_)
                · refine rj_iconst (pc := 121) dX11_spells_121 ?_
                  refine r_goto (pc := 122) (tgt := 126) dX11_spells_122 (by decide) ?_
                  refine r_istore_n (pc := 126) dX11_spells_126 (Nat.le_of_ble_eq_true rfl) ?_
                  dsimp only [lsSt, List.set, mLs, mEnt]
                  refine r_iload (pc := 127) dX11_spells_127 rfl ?_
                  refine rj_if_eq (pc := 129) (tgt := 135) dX11_spells_129 (by decide) (by first | assumption | exact b01_r | exact bz_r | omega | (constructor <;> omega) | exact hM _ | exact hPo _ | exact hTa _ | exact hRo _) (fun c_129 => ?_) (fun c_129 => ?_)
                  · try simp only [b01_0, bz_0, Classical.not_not] at c_129
                    refine r_aload_n (pc := 135) dX11_spells_135 rfl (by first | rfl | exact isRefV_rf _) ?_
                    refine rm_getf (pc := 136) dX11_spells_136 fX11_33 (by assumption) rfl ?_
                    refine r_aload_n (pc := 139) dX11_spells_139 rfl (by first | rfl | exact isRefV_rf _) ?_
                    refine rm_getf (pc := 140) dX11_spells_140 fX11_298 (by assumption) rfl ?_
                    refine r_iload (pc := 143) dX11_spells_143 rfl ?_
                    first | refine rm_iast6 (pc := 145) (j := w) dX11_spells_145 (by assumption) (by first | assumption | exact b01_r | exact bz_r | omega | (constructor <;> omega) | exact hM _ | exact hPo _ | exact hTa _ | exact hRo _) (by first | assumption | exact b01_r | exact bz_r | omega | (constructor <;> omega) | exact hM _ | exact hPo _ | exact hTa _ | exact hRo _) (by first | assumption | exact b01_r | exact bz_r | omega | (constructor <;> omega) | exact hM _ | exact hPo _ | exact hTa _ | exact hRo _) (by omega) (fun h_145 hB_145 hS_145 => ?_)
                    refine r_aload_n (pc := 146) dX11_spells_146 rfl (by first | rfl | exact isRefV_rf _) ?_
                    refine r_dup (pc := 147) dX11_spells_147 (by first | rfl | (cases ‹Option Nat› <;> rfl)) ?_
                    refine rm_getf (pc := 148) dX11_spells_148 fX11_298 (by assumption) rfl ?_
                    refine rj_iconst (pc := 151) dX11_spells_151 ?_
                    refine rj_iadd (pc := 152) dX11_spells_152 ?_
                    refine rm_putf (pc := 153) dX11_spells_153 fX11_298 (by assumption) rfl rfl (Nat.le_of_ble_eq_true rfl) (fun h_153 hB_153 hS_153 => ?_)
                    dsimp only [List.set, mFs] at hB_153
                    refine rj_iinc (pc := 156) dX11_spells_156 (Nat.le_of_ble_eq_true rfl) rfl ?_
                    dsimp only [lsSt, List.set, mLs, mEnt]
                    refine r_goto (pc := 159) (tgt := 10) dX11_spells_159 (by decide) ?_
                    rw [show ((p : Int) + 1) = ((p + 1 : Nat) : Int) by omega]
                    rw [spS, if_neg (fun g => c_49 g.2), if_neg (fun g => c_59 g.1)]
                    rw [show decide (dgP (pool p)) = true from decide_eq_true c_102]
                    have y := ih (p + 1) true (updI pap w (pool p)) (w + 1) _ (some (.int (J (pool p)))) (some (.int (J (b01 (48 ≤ pool p ∧ pool p ≤ 57))))) (some (.int (J 0))) (by omega) (by omega) (by omega) (by rw [show ((w + 1 : Nat) : Int) = (w : Int) + 1 by omega]; exact hB_153)
                    rw [show bz true = 1 from rfl] at y
                    exact y.mono (fun v h' q => ⟨q.1, q.2.1, (hS_145.trans hS_153).trans q.2.2⟩)
                  · try simp only [b01_0, bz_0, Classical.not_not] at c_129
                    all_goals (first | exact absurd trivial ‹¬ True› | exact absurd c_59 c_113 | exact absurd c_106 c_63 | (exfalso; omega))
                · refine r_iload (pc := 116) dX11_spells_116 rfl ?_
                  refine rj_if_ne (pc := 118) (tgt := 125) dX11_spells_118 (by decide) (by first | assumption | exact b01_r | exact bz_r | omega | (constructor <;> omega) | exact hM _ | exact hPo _ | exact hTa _ | exact hRo _) (fun c_118 => ?_) (fun c_118 => ?_)
                  · try simp only [b01_0, bz_0, Classical.not_not] at c_118
                    all_goals (first | exact absurd trivial ‹¬ True› | exact absurd c_59 c_113 | exact absurd c_106 c_63 | (exfalso; omega))
                  · try simp only [b01_0, bz_0, Classical.not_not] at c_118
                    refine rj_iconst (pc := 121) dX11_spells_121 ?_
                    refine r_goto (pc := 122) (tgt := 126) dX11_spells_122 (by decide) ?_
                    refine r_istore_n (pc := 126) dX11_spells_126 (Nat.le_of_ble_eq_true rfl) ?_
                    dsimp only [lsSt, List.set, mLs, mEnt]
                    refine r_iload (pc := 127) dX11_spells_127 rfl ?_
                    refine rj_if_eq (pc := 129) (tgt := 135) dX11_spells_129 (by decide) (by first | assumption | exact b01_r | exact bz_r | omega | (constructor <;> omega) | exact hM _ | exact hPo _ | exact hTa _ | exact hRo _) (fun c_129 => ?_) (fun c_129 => ?_)
                    · try simp only [b01_0, bz_0, Classical.not_not] at c_129
                      refine r_aload_n (pc := 135) dX11_spells_135 rfl (by first | rfl | exact isRefV_rf _) ?_
                      refine rm_getf (pc := 136) dX11_spells_136 fX11_33 (by assumption) rfl ?_
                      refine r_aload_n (pc := 139) dX11_spells_139 rfl (by first | rfl | exact isRefV_rf _) ?_
                      refine rm_getf (pc := 140) dX11_spells_140 fX11_298 (by assumption) rfl ?_
                      refine r_iload (pc := 143) dX11_spells_143 rfl ?_
                      first | refine rm_iast6 (pc := 145) (j := w) dX11_spells_145 (by assumption) (by first | assumption | exact b01_r | exact bz_r | omega | (constructor <;> omega) | exact hM _ | exact hPo _ | exact hTa _ | exact hRo _) (by first | assumption | exact b01_r | exact bz_r | omega | (constructor <;> omega) | exact hM _ | exact hPo _ | exact hTa _ | exact hRo _) (by first | assumption | exact b01_r | exact bz_r | omega | (constructor <;> omega) | exact hM _ | exact hPo _ | exact hTa _ | exact hRo _) (by omega) (fun h_145 hB_145 hS_145 => ?_)
                      refine r_aload_n (pc := 146) dX11_spells_146 rfl (by first | rfl | exact isRefV_rf _) ?_
                      refine r_dup (pc := 147) dX11_spells_147 (by first | rfl | (cases ‹Option Nat› <;> rfl)) ?_
                      refine rm_getf (pc := 148) dX11_spells_148 fX11_298 (by assumption) rfl ?_
                      refine rj_iconst (pc := 151) dX11_spells_151 ?_
                      refine rj_iadd (pc := 152) dX11_spells_152 ?_
                      refine rm_putf (pc := 153) dX11_spells_153 fX11_298 (by assumption) rfl rfl (Nat.le_of_ble_eq_true rfl) (fun h_153 hB_153 hS_153 => ?_)
                      dsimp only [List.set, mFs] at hB_153
                      refine rj_iinc (pc := 156) dX11_spells_156 (Nat.le_of_ble_eq_true rfl) rfl ?_
                      dsimp only [lsSt, List.set, mLs, mEnt]
                      refine r_goto (pc := 159) (tgt := 10) dX11_spells_159 (by decide) ?_
                      rw [show ((p : Int) + 1) = ((p + 1 : Nat) : Int) by omega]
                      rw [spS, if_neg (fun g => c_49 g.2), if_neg (fun g => c_59 g.1)]
                      rw [show decide (dgP (pool p)) = true from decide_eq_true c_102]
                      have y := ih (p + 1) true (updI pap w (pool p)) (w + 1) _ (some (.int (J (pool p)))) (some (.int (J (b01 (48 ≤ pool p ∧ pool p ≤ 57))))) (some (.int (J 0))) (by omega) (by omega) (by omega) (by rw [show ((w + 1 : Nat) : Int) = (w : Int) + 1 by omega]; exact hB_153)
                      rw [show bz true = 1 from rfl] at y
                      exact y.mono (fun v h' q => ⟨q.1, q.2.1, (hS_145.trans hS_153).trans q.2.2⟩)
                    · try simp only [b01_0, bz_0, Classical.not_not] at c_129
                      all_goals (first | exact absurd trivial ‹¬ True› | exact absurd c_59 c_113 | exact absurd c_106 c_63 | (exfalso; omega))
          · refine r_iload_n (pc := 62) dX11_spells_62 rfl ?_
            refine rj_if_ne (pc := 63) (tgt := 97) dX11_spells_63 (by decide) (by first | assumption | exact b01_r | exact bz_r | omega | (constructor <;> omega) | exact hM _ | exact hPo _ | exact hTa _ | exact hRo _) (fun c_63 => ?_) (fun c_63 => ?_)
            · try simp only [b01_0, bz_0, Classical.not_not] at c_63
              refine rj_iconst (pc := 97) dX11_spells_97 ?_
              refine r_istore (pc := 98) dX11_spells_98 (Nat.le_of_ble_eq_true rfl) ?_
              dsimp only [lsSt, List.set, mLs, mEnt]
              refine r_iload (pc := 100) dX11_spells_100 rfl ?_
              refine rj_if_eq (pc := 102) (tgt := 125) dX11_spells_102 (by decide) (by first | assumption | exact b01_r | exact bz_r | omega | (constructor <;> omega) | exact hM _ | exact hPo _ | exact hTa _ | exact hRo _) (fun c_102 => ?_) (fun c_102 => ?_)
              · try simp only [b01_0, bz_0, Classical.not_not] at c_102
                refine rj_iconst (pc := 125) dX11_spells_125 ?_
                refine r_istore_n (pc := 126) dX11_spells_126 (Nat.le_of_ble_eq_true rfl) ?_
                dsimp only [lsSt, List.set, mLs, mEnt]
                refine r_iload (pc := 127) dX11_spells_127 rfl ?_
                refine rj_if_eq (pc := 129) (tgt := 135) dX11_spells_129 (by decide) (by first | assumption | exact b01_r | exact bz_r | omega | (constructor <;> omega) | exact hM _ | exact hPo _ | exact hTa _ | exact hRo _) (fun c_129 => ?_) (fun c_129 => ?_)
                · try simp only [b01_0, bz_0, Classical.not_not] at c_129
                  refine r_aload_n (pc := 135) dX11_spells_135 rfl (by first | rfl | exact isRefV_rf _) ?_
                  refine rm_getf (pc := 136) dX11_spells_136 fX11_33 (by assumption) rfl ?_
                  refine r_aload_n (pc := 139) dX11_spells_139 rfl (by first | rfl | exact isRefV_rf _) ?_
                  refine rm_getf (pc := 140) dX11_spells_140 fX11_298 (by assumption) rfl ?_
                  refine r_iload (pc := 143) dX11_spells_143 rfl ?_
                  first | refine rm_iast6 (pc := 145) (j := w) dX11_spells_145 (by assumption) (by first | assumption | exact b01_r | exact bz_r | omega | (constructor <;> omega) | exact hM _ | exact hPo _ | exact hTa _ | exact hRo _) (by first | assumption | exact b01_r | exact bz_r | omega | (constructor <;> omega) | exact hM _ | exact hPo _ | exact hTa _ | exact hRo _) (by first | assumption | exact b01_r | exact bz_r | omega | (constructor <;> omega) | exact hM _ | exact hPo _ | exact hTa _ | exact hRo _) (by omega) (fun h_145 hB_145 hS_145 => ?_)
                  refine r_aload_n (pc := 146) dX11_spells_146 rfl (by first | rfl | exact isRefV_rf _) ?_
                  refine r_dup (pc := 147) dX11_spells_147 (by first | rfl | (cases ‹Option Nat› <;> rfl)) ?_
                  refine rm_getf (pc := 148) dX11_spells_148 fX11_298 (by assumption) rfl ?_
                  refine rj_iconst (pc := 151) dX11_spells_151 ?_
                  refine rj_iadd (pc := 152) dX11_spells_152 ?_
                  refine rm_putf (pc := 153) dX11_spells_153 fX11_298 (by assumption) rfl rfl (Nat.le_of_ble_eq_true rfl) (fun h_153 hB_153 hS_153 => ?_)
                  dsimp only [List.set, mFs] at hB_153
                  refine rj_iinc (pc := 156) dX11_spells_156 (Nat.le_of_ble_eq_true rfl) rfl ?_
                  dsimp only [lsSt, List.set, mLs, mEnt]
                  refine r_goto (pc := 159) (tgt := 10) dX11_spells_159 (by decide) ?_
                  rw [show ((p : Int) + 1) = ((p + 1 : Nat) : Int) by omega]
                  rw [spS, if_neg (fun g => c_49 g.2), if_neg (fun g => absurd g.2.1 (by simpa using c_63))]
                  rw [show decide (dgP (pool p)) = false from decide_eq_false c_102]
                  have y := ih (p + 1) false (updI pap w (pool p)) (w + 1) _ (some (.int (J (pool p)))) (some (.int (J (b01 (48 ≤ pool p ∧ pool p ≤ 57))))) (some (.int (J 0))) (by omega) (by omega) (by omega) (by rw [show ((w + 1 : Nat) : Int) = (w : Int) + 1 by omega]; exact hB_153)
                  rw [show bz false = 0 from rfl] at y
                  exact y.mono (fun v h' q => ⟨q.1, q.2.1, (hS_145.trans hS_153).trans q.2.2⟩)
                · try simp only [b01_0, bz_0, Classical.not_not] at c_129
                  all_goals (first | exact absurd trivial ‹¬ True› | exact absurd c_59 c_113 | exact absurd c_106 c_63 | (exfalso; omega))
              · try simp only [b01_0, bz_0, Classical.not_not] at c_102
                refine r_iload_n (pc := 105) dX11_spells_105 rfl ?_
                refine rj_if_ne (pc := 106) (tgt := 121) dX11_spells_106 (by decide) (by first | assumption | exact b01_r | exact bz_r | omega | (constructor <;> omega) | exact hM _ | exact hPo _ | exact hTa _ | exact hRo _) (fun c_106 => ?_) (fun c_106 => ?_)
                · try simp only [b01_0, bz_0, Classical.not_not] at c_106
                  refine rj_iconst (pc := 121) dX11_spells_121 ?_
                  refine r_goto (pc := 122) (tgt := 126) dX11_spells_122 (by decide) ?_
                  refine r_istore_n (pc := 126) dX11_spells_126 (Nat.le_of_ble_eq_true rfl) ?_
                  dsimp only [lsSt, List.set, mLs, mEnt]
                  refine r_iload (pc := 127) dX11_spells_127 rfl ?_
                  refine rj_if_eq (pc := 129) (tgt := 135) dX11_spells_129 (by decide) (by first | assumption | exact b01_r | exact bz_r | omega | (constructor <;> omega) | exact hM _ | exact hPo _ | exact hTa _ | exact hRo _) (fun c_129 => ?_) (fun c_129 => ?_)
                  · try simp only [b01_0, bz_0, Classical.not_not] at c_129
                    refine r_aload_n (pc := 135) dX11_spells_135 rfl (by first | rfl | exact isRefV_rf _) ?_
                    refine rm_getf (pc := 136) dX11_spells_136 fX11_33 (by assumption) rfl ?_
                    refine r_aload_n (pc := 139) dX11_spells_139 rfl (by first | rfl | exact isRefV_rf _) ?_
                    refine rm_getf (pc := 140) dX11_spells_140 fX11_298 (by assumption) rfl ?_
                    refine r_iload (pc := 143) dX11_spells_143 rfl ?_
                    first | refine rm_iast6 (pc := 145) (j := w) dX11_spells_145 (by assumption) (by first | assumption | exact b01_r | exact bz_r | omega | (constructor <;> omega) | exact hM _ | exact hPo _ | exact hTa _ | exact hRo _) (by first | assumption | exact b01_r | exact bz_r | omega | (constructor <;> omega) | exact hM _ | exact hPo _ | exact hTa _ | exact hRo _) (by first | assumption | exact b01_r | exact bz_r | omega | (constructor <;> omega) | exact hM _ | exact hPo _ | exact hTa _ | exact hRo _) (by omega) (fun h_145 hB_145 hS_145 => ?_)
                    refine r_aload_n (pc := 146) dX11_spells_146 rfl (by first | rfl | exact isRefV_rf _) ?_
                    refine r_dup (pc := 147) dX11_spells_147 (by first | rfl | (cases ‹Option Nat› <;> rfl)) ?_
                    refine rm_getf (pc := 148) dX11_spells_148 fX11_298 (by assumption) rfl ?_
                    refine rj_iconst (pc := 151) dX11_spells_151 ?_
                    refine rj_iadd (pc := 152) dX11_spells_152 ?_
                    refine rm_putf (pc := 153) dX11_spells_153 fX11_298 (by assumption) rfl rfl (Nat.le_of_ble_eq_true rfl) (fun h_153 hB_153 hS_153 => ?_)
                    dsimp only [List.set, mFs] at hB_153
                    refine rj_iinc (pc := 156) dX11_spells_156 (Nat.le_of_ble_eq_true rfl) rfl ?_
                    dsimp only [lsSt, List.set, mLs, mEnt]
                    refine r_goto (pc := 159) (tgt := 10) dX11_spells_159 (by decide) ?_
                    rw [show ((p : Int) + 1) = ((p + 1 : Nat) : Int) by omega]
                    rw [spS, if_neg (fun g => c_49 g.2), if_neg (fun g => absurd g.2.1 (by simpa using c_63))]
                    rw [show decide (dgP (pool p)) = true from decide_eq_true c_102]
                    have y := ih (p + 1) true (updI pap w (pool p)) (w + 1) _ (some (.int (J (pool p)))) (some (.int (J (b01 (48 ≤ pool p ∧ pool p ≤ 57))))) (some (.int (J 0))) (by omega) (by omega) (by omega) (by rw [show ((w + 1 : Nat) : Int) = (w : Int) + 1 by omega]; exact hB_153)
                    rw [show bz true = 1 from rfl] at y
                    exact y.mono (fun v h' q => ⟨q.1, q.2.1, (hS_145.trans hS_153).trans q.2.2⟩)
                  · try simp only [b01_0, bz_0, Classical.not_not] at c_129
                    all_goals (first | exact absurd trivial ‹¬ True› | exact absurd c_59 c_113 | exact absurd c_106 c_63 | (exfalso; omega))
                · try simp only [b01_0, bz_0, Classical.not_not] at c_106
                  refine r_iload (pc := 109) dX11_spells_109 rfl ?_
                  refine rj_bipush (pc := 111) dX11_spells_111 (by decide +kernel) ?_
                  refine rj_icmp_ne (pc := 113) (tgt := 121) dX11_spells_113 (by decide) (by first | assumption | exact b01_r | exact bz_r | omega | (constructor <;> omega) | exact hM _ | exact hPo _ | exact hTa _ | exact hRo _) (by first | assumption | exact b01_r | exact bz_r | omega | (constructor <;> omega) | exact hM _ | exact hPo _ | exact hTa _ | exact hRo _) (fun c_113 => ?_) (fun c_113 => ?_)
                  · refine rj_iconst (pc := 121) dX11_spells_121 ?_
                    refine r_goto (pc := 122) (tgt := 126) dX11_spells_122 (by decide) ?_
                    refine r_istore_n (pc := 126) dX11_spells_126 (Nat.le_of_ble_eq_true rfl) ?_
                    dsimp only [lsSt, List.set, mLs, mEnt]
                    refine r_iload (pc := 127) dX11_spells_127 rfl ?_
                    refine rj_if_eq (pc := 129) (tgt := 135) dX11_spells_129 (by decide) (by first | assumption | exact b01_r | exact bz_r | omega | (constructor <;> omega) | exact hM _ | exact hPo _ | exact hTa _ | exact hRo _) (fun c_129 => ?_) (fun c_129 => ?_)
                    · try simp only [b01_0, bz_0, Classical.not_not] at c_129
                      refine r_aload_n (pc := 135) dX11_spells_135 rfl (by first | rfl | exact isRefV_rf _) ?_
                      refine rm_getf (pc := 136) dX11_spells_136 fX11_33 (by assumption) rfl ?_
                      refine r_aload_n (pc := 139) dX11_spells_139 rfl (by first | rfl | exact isRefV_rf _) ?_
                      refine rm_getf (pc := 140) dX11_spells_140 fX11_298 (by assumption) rfl ?_
                      refine r_iload (pc := 143) dX11_spells_143 rfl ?_
                      first | refine rm_iast6 (pc := 145) (j := w) dX11_spells_145 (by assumption) (by first | assumption | exact b01_r | exact bz_r | omega | (constructor <;> omega) | exact hM _ | exact hPo _ | exact hTa _ | exact hRo _) (by first | assumption | exact b01_r | exact bz_r | omega | (constructor <;> omega) | exact hM _ | exact hPo _ | exact hTa _ | exact hRo _) (by first | assumption | exact b01_r | exact bz_r | omega | (constructor <;> omega) | exact hM _ | exact hPo _ | exact hTa _ | exact hRo _) (by omega) (fun h_145 hB_145 hS_145 => ?_)
                      refine r_aload_n (pc := 146) dX11_spells_146 rfl (by first | rfl | exact isRefV_rf _) ?_
                      refine r_dup (pc := 147) dX11_spells_147 (by first | rfl | (cases ‹Option Nat› <;> rfl)) ?_
                      refine rm_getf (pc := 148) dX11_spells_148 fX11_298 (by assumption) rfl ?_
                      refine rj_iconst (pc := 151) dX11_spells_151 ?_
                      refine rj_iadd (pc := 152) dX11_spells_152 ?_
                      refine rm_putf (pc := 153) dX11_spells_153 fX11_298 (by assumption) rfl rfl (Nat.le_of_ble_eq_true rfl) (fun h_153 hB_153 hS_153 => ?_)
                      dsimp only [List.set, mFs] at hB_153
                      refine rj_iinc (pc := 156) dX11_spells_156 (Nat.le_of_ble_eq_true rfl) rfl ?_
                      dsimp only [lsSt, List.set, mLs, mEnt]
                      refine r_goto (pc := 159) (tgt := 10) dX11_spells_159 (by decide) ?_
                      rw [show ((p : Int) + 1) = ((p + 1 : Nat) : Int) by omega]
                      rw [spS, if_neg (fun g => c_49 g.2), if_neg (fun g => absurd g.2.1 (by simpa using c_63))]
                      rw [show decide (dgP (pool p)) = true from decide_eq_true c_102]
                      have y := ih (p + 1) true (updI pap w (pool p)) (w + 1) _ (some (.int (J (pool p)))) (some (.int (J (b01 (48 ≤ pool p ∧ pool p ≤ 57))))) (some (.int (J 0))) (by omega) (by omega) (by omega) (by rw [show ((w + 1 : Nat) : Int) = (w : Int) + 1 by omega]; exact hB_153)
                      rw [show bz true = 1 from rfl] at y
                      exact y.mono (fun v h' q => ⟨q.1, q.2.1, (hS_145.trans hS_153).trans q.2.2⟩)
                    · try simp only [b01_0, bz_0, Classical.not_not] at c_129
                      all_goals (first | exact absurd trivial ‹¬ True› | exact absurd c_59 c_113 | exact absurd c_106 c_63 | (exfalso; omega))
                  · refine r_iload (pc := 116) dX11_spells_116 rfl ?_
                    refine rj_if_ne (pc := 118) (tgt := 125) dX11_spells_118 (by decide) (by first | assumption | exact b01_r | exact bz_r | omega | (constructor <;> omega) | exact hM _ | exact hPo _ | exact hTa _ | exact hRo _) (fun c_118 => ?_) (fun c_118 => ?_)
                    · try simp only [b01_0, bz_0, Classical.not_not] at c_118
                      all_goals (first | exact absurd trivial ‹¬ True› | exact absurd c_59 c_113 | exact absurd c_106 c_63 | (exfalso; omega))
                    · try simp only [b01_0, bz_0, Classical.not_not] at c_118
                      refine rj_iconst (pc := 121) dX11_spells_121 ?_
                      refine r_goto (pc := 122) (tgt := 126) dX11_spells_122 (by decide) ?_
                      refine r_istore_n (pc := 126) dX11_spells_126 (Nat.le_of_ble_eq_true rfl) ?_
                      dsimp only [lsSt, List.set, mLs, mEnt]
                      refine r_iload (pc := 127) dX11_spells_127 rfl ?_
                      refine rj_if_eq (pc := 129) (tgt := 135) dX11_spells_129 (by decide) (by first | assumption | exact b01_r | exact bz_r | omega | (constructor <;> omega) | exact hM _ | exact hPo _ | exact hTa _ | exact hRo _) (fun c_129 => ?_) (fun c_129 => ?_)
                      · try simp only [b01_0, bz_0, Classical.not_not] at c_129
                        refine r_aload_n (pc := 135) dX11_spells_135 rfl (by first | rfl | exact isRefV_rf _) ?_
                        refine rm_getf (pc := 136) dX11_spells_136 fX11_33 (by assumption) rfl ?_
                        refine r_aload_n (pc := 139) dX11_spells_139 rfl (by first | rfl | exact isRefV_rf _) ?_
                        refine rm_getf (pc := 140) dX11_spells_140 fX11_298 (by assumption) rfl ?_
                        refine r_iload (pc := 143) dX11_spells_143 rfl ?_
                        first | refine rm_iast6 (pc := 145) (j := w) dX11_spells_145 (by assumption) (by first | assumption | exact b01_r | exact bz_r | omega | (constructor <;> omega) | exact hM _ | exact hPo _ | exact hTa _ | exact hRo _) (by first | assumption | exact b01_r | exact bz_r | omega | (constructor <;> omega) | exact hM _ | exact hPo _ | exact hTa _ | exact hRo _) (by first | assumption | exact b01_r | exact bz_r | omega | (constructor <;> omega) | exact hM _ | exact hPo _ | exact hTa _ | exact hRo _) (by omega) (fun h_145 hB_145 hS_145 => ?_)
                        refine r_aload_n (pc := 146) dX11_spells_146 rfl (by first | rfl | exact isRefV_rf _) ?_
                        refine r_dup (pc := 147) dX11_spells_147 (by first | rfl | (cases ‹Option Nat› <;> rfl)) ?_
                        refine rm_getf (pc := 148) dX11_spells_148 fX11_298 (by assumption) rfl ?_
                        refine rj_iconst (pc := 151) dX11_spells_151 ?_
                        refine rj_iadd (pc := 152) dX11_spells_152 ?_
                        refine rm_putf (pc := 153) dX11_spells_153 fX11_298 (by assumption) rfl rfl (Nat.le_of_ble_eq_true rfl) (fun h_153 hB_153 hS_153 => ?_)
                        dsimp only [List.set, mFs] at hB_153
                        refine rj_iinc (pc := 156) dX11_spells_156 (Nat.le_of_ble_eq_true rfl) rfl ?_
                        dsimp only [lsSt, List.set, mLs, mEnt]
                        refine r_goto (pc := 159) (tgt := 10) dX11_spells_159 (by decide) ?_
                        rw [show ((p : Int) + 1) = ((p + 1 : Nat) : Int) by omega]
                        rw [spS, if_neg (fun g => c_49 g.2), if_neg (fun g => absurd g.2.1 (by simpa using c_63))]
                        rw [show decide (dgP (pool p)) = true from decide_eq_true c_102]
                        have y := ih (p + 1) true (updI pap w (pool p)) (w + 1) _ (some (.int (J (pool p)))) (some (.int (J (b01 (48 ≤ pool p ∧ pool p ≤ 57))))) (some (.int (J 0))) (by omega) (by omega) (by omega) (by rw [show ((w + 1 : Nat) : Int) = (w : Int) + 1 by omega]; exact hB_153)
                        rw [show bz true = 1 from rfl] at y
                        exact y.mono (fun v h' q => ⟨q.1, q.2.1, (hS_145.trans hS_153).trans q.2.2⟩)
                      · try simp only [b01_0, bz_0, Classical.not_not] at c_129
                        all_goals (first | exact absurd trivial ‹¬ True› | exact absurd c_59 c_113 | exact absurd c_106 c_63 | (exfalso; omega))
            · try simp only [b01_0, bz_0, Classical.not_not] at c_63
              refine r_iload (pc := 66) dX11_spells_66 rfl ?_
              refine rj_iconst (pc := 68) dX11_spells_68 ?_
              refine rj_iadd (pc := 69) dX11_spells_69 ?_
              refine r_iload_n (pc := 70) dX11_spells_70 rfl ?_
              refine rj_icmp_ge (pc := 71) (tgt := 97) dX11_spells_71 (by decide) (by first | assumption | exact b01_r | exact bz_r | omega | (constructor <;> omega) | exact hM _ | exact hPo _ | exact hTa _ | exact hRo _) (by first | assumption | exact b01_r | exact bz_r | omega | (constructor <;> omega) | exact hM _ | exact hPo _ | exact hTa _ | exact hRo _) (fun c_71 => ?_) (fun c_71 => ?_)
              · refine rj_iconst (pc := 97) dX11_spells_97 ?_
                refine r_istore (pc := 98) dX11_spells_98 (Nat.le_of_ble_eq_true rfl) ?_
                dsimp only [lsSt, List.set, mLs, mEnt]
                refine r_iload (pc := 100) dX11_spells_100 rfl ?_
                refine rj_if_eq (pc := 102) (tgt := 125) dX11_spells_102 (by decide) (by first | assumption | exact b01_r | exact bz_r | omega | (constructor <;> omega) | exact hM _ | exact hPo _ | exact hTa _ | exact hRo _) (fun c_102 => ?_) (fun c_102 => ?_)
                · try simp only [b01_0, bz_0, Classical.not_not] at c_102
                  refine rj_iconst (pc := 125) dX11_spells_125 ?_
                  refine r_istore_n (pc := 126) dX11_spells_126 (Nat.le_of_ble_eq_true rfl) ?_
                  dsimp only [lsSt, List.set, mLs, mEnt]
                  refine r_iload (pc := 127) dX11_spells_127 rfl ?_
                  refine rj_if_eq (pc := 129) (tgt := 135) dX11_spells_129 (by decide) (by first | assumption | exact b01_r | exact bz_r | omega | (constructor <;> omega) | exact hM _ | exact hPo _ | exact hTa _ | exact hRo _) (fun c_129 => ?_) (fun c_129 => ?_)
                  · try simp only [b01_0, bz_0, Classical.not_not] at c_129
                    refine r_aload_n (pc := 135) dX11_spells_135 rfl (by first | rfl | exact isRefV_rf _) ?_
                    refine rm_getf (pc := 136) dX11_spells_136 fX11_33 (by assumption) rfl ?_
                    refine r_aload_n (pc := 139) dX11_spells_139 rfl (by first | rfl | exact isRefV_rf _) ?_
                    refine rm_getf (pc := 140) dX11_spells_140 fX11_298 (by assumption) rfl ?_
                    refine r_iload (pc := 143) dX11_spells_143 rfl ?_
                    first | refine rm_iast6 (pc := 145) (j := w) dX11_spells_145 (by assumption) (by first | assumption | exact b01_r | exact bz_r | omega | (constructor <;> omega) | exact hM _ | exact hPo _ | exact hTa _ | exact hRo _) (by first | assumption | exact b01_r | exact bz_r | omega | (constructor <;> omega) | exact hM _ | exact hPo _ | exact hTa _ | exact hRo _) (by first | assumption | exact b01_r | exact bz_r | omega | (constructor <;> omega) | exact hM _ | exact hPo _ | exact hTa _ | exact hRo _) (by omega) (fun h_145 hB_145 hS_145 => ?_)
                    refine r_aload_n (pc := 146) dX11_spells_146 rfl (by first | rfl | exact isRefV_rf _) ?_
                    refine r_dup (pc := 147) dX11_spells_147 (by first | rfl | (cases ‹Option Nat› <;> rfl)) ?_
                    refine rm_getf (pc := 148) dX11_spells_148 fX11_298 (by assumption) rfl ?_
                    refine rj_iconst (pc := 151) dX11_spells_151 ?_
                    refine rj_iadd (pc := 152) dX11_spells_152 ?_
                    refine rm_putf (pc := 153) dX11_spells_153 fX11_298 (by assumption) rfl rfl (Nat.le_of_ble_eq_true rfl) (fun h_153 hB_153 hS_153 => ?_)
                    dsimp only [List.set, mFs] at hB_153
                    refine rj_iinc (pc := 156) dX11_spells_156 (Nat.le_of_ble_eq_true rfl) rfl ?_
                    dsimp only [lsSt, List.set, mLs, mEnt]
                    refine r_goto (pc := 159) (tgt := 10) dX11_spells_159 (by decide) ?_
                    rw [show ((p : Int) + 1) = ((p + 1 : Nat) : Int) by omega]
                    rw [spS, if_neg (fun g => c_49 g.2), if_neg (fun g => absurd g.2.2.1 (by omega))]
                    rw [show decide (dgP (pool p)) = false from decide_eq_false c_102]
                    have y := ih (p + 1) false (updI pap w (pool p)) (w + 1) _ (some (.int (J (pool p)))) (some (.int (J (b01 (48 ≤ pool p ∧ pool p ≤ 57))))) (some (.int (J 0))) (by omega) (by omega) (by omega) (by rw [show ((w + 1 : Nat) : Int) = (w : Int) + 1 by omega]; exact hB_153)
                    rw [show bz false = 0 from rfl] at y
                    exact y.mono (fun v h' q => ⟨q.1, q.2.1, (hS_145.trans hS_153).trans q.2.2⟩)
                  · try simp only [b01_0, bz_0, Classical.not_not] at c_129
                    all_goals (first | exact absurd trivial ‹¬ True› | exact absurd c_59 c_113 | exact absurd c_106 c_63 | (exfalso; omega))
                · try simp only [b01_0, bz_0, Classical.not_not] at c_102
                  refine r_iload_n (pc := 105) dX11_spells_105 rfl ?_
                  refine rj_if_ne (pc := 106) (tgt := 121) dX11_spells_106 (by decide) (by first | assumption | exact b01_r | exact bz_r | omega | (constructor <;> omega) | exact hM _ | exact hPo _ | exact hTa _ | exact hRo _) (fun c_106 => ?_) (fun c_106 => ?_)
                  · try simp only [b01_0, bz_0, Classical.not_not] at c_106
                    refine rj_iconst (pc := 121) dX11_spells_121 ?_
                    refine r_goto (pc := 122) (tgt := 126) dX11_spells_122 (by decide) ?_
                    refine r_istore_n (pc := 126) dX11_spells_126 (Nat.le_of_ble_eq_true rfl) ?_
                    dsimp only [lsSt, List.set, mLs, mEnt]
                    refine r_iload (pc := 127) dX11_spells_127 rfl ?_
                    refine rj_if_eq (pc := 129) (tgt := 135) dX11_spells_129 (by decide) (by first | assumption | exact b01_r | exact bz_r | omega | (constructor <;> omega) | exact hM _ | exact hPo _ | exact hTa _ | exact hRo _) (fun c_129 => ?_) (fun c_129 => ?_)
                    · try simp only [b01_0, bz_0, Classical.not_not] at c_129
                      refine r_aload_n (pc := 135) dX11_spells_135 rfl (by first | rfl | exact isRefV_rf _) ?_
                      refine rm_getf (pc := 136) dX11_spells_136 fX11_33 (by assumption) rfl ?_
                      refine r_aload_n (pc := 139) dX11_spells_139 rfl (by first | rfl | exact isRefV_rf _) ?_
                      refine rm_getf (pc := 140) dX11_spells_140 fX11_298 (by assumption) rfl ?_
                      refine r_iload (pc := 143) dX11_spells_143 rfl ?_
                      first | refine rm_iast6 (pc := 145) (j := w) dX11_spells_145 (by assumption) (by first | assumption | exact b01_r | exact bz_r | omega | (constructor <;> omega) | exact hM _ | exact hPo _ | exact hTa _ | exact hRo _) (by first | assumption | exact b01_r | exact bz_r | omega | (constructor <;> omega) | exact hM _ | exact hPo _ | exact hTa _ | exact hRo _) (by first | assumption | exact b01_r | exact bz_r | omega | (constructor <;> omega) | exact hM _ | exact hPo _ | exact hTa _ | exact hRo _) (by omega) (fun h_145 hB_145 hS_145 => ?_)
                      refine r_aload_n (pc := 146) dX11_spells_146 rfl (by first | rfl | exact isRefV_rf _) ?_
                      refine r_dup (pc := 147) dX11_spells_147 (by first | rfl | (cases ‹Option Nat› <;> rfl)) ?_
                      refine rm_getf (pc := 148) dX11_spells_148 fX11_298 (by assumption) rfl ?_
                      refine rj_iconst (pc := 151) dX11_spells_151 ?_
                      refine rj_iadd (pc := 152) dX11_spells_152 ?_
                      refine rm_putf (pc := 153) dX11_spells_153 fX11_298 (by assumption) rfl rfl (Nat.le_of_ble_eq_true rfl) (fun h_153 hB_153 hS_153 => ?_)
                      dsimp only [List.set, mFs] at hB_153
                      refine rj_iinc (pc := 156) dX11_spells_156 (Nat.le_of_ble_eq_true rfl) rfl ?_
                      dsimp only [lsSt, List.set, mLs, mEnt]
                      refine r_goto (pc := 159) (tgt := 10) dX11_spells_159 (by decide) ?_
                      rw [show ((p : Int) + 1) = ((p + 1 : Nat) : Int) by omega]
                      rw [spS, if_neg (fun g => c_49 g.2), if_neg (fun g => absurd g.2.2.1 (by omega))]
                      rw [show decide (dgP (pool p)) = true from decide_eq_true c_102]
                      have y := ih (p + 1) true (updI pap w (pool p)) (w + 1) _ (some (.int (J (pool p)))) (some (.int (J (b01 (48 ≤ pool p ∧ pool p ≤ 57))))) (some (.int (J 0))) (by omega) (by omega) (by omega) (by rw [show ((w + 1 : Nat) : Int) = (w : Int) + 1 by omega]; exact hB_153)
                      rw [show bz true = 1 from rfl] at y
                      exact y.mono (fun v h' q => ⟨q.1, q.2.1, (hS_145.trans hS_153).trans q.2.2⟩)
                    · try simp only [b01_0, bz_0, Classical.not_not] at c_129
                      all_goals (first | exact absurd trivial ‹¬ True› | exact absurd c_59 c_113 | exact absurd c_106 c_63 | (exfalso; omega))
                  · try simp only [b01_0, bz_0, Classical.not_not] at c_106
                    refine r_iload (pc := 109) dX11_spells_109 rfl ?_
                    refine rj_bipush (pc := 111) dX11_spells_111 (by decide +kernel) ?_
                    refine rj_icmp_ne (pc := 113) (tgt := 121) dX11_spells_113 (by decide) (by first | assumption | exact b01_r | exact bz_r | omega | (constructor <;> omega) | exact hM _ | exact hPo _ | exact hTa _ | exact hRo _) (by first | assumption | exact b01_r | exact bz_r | omega | (constructor <;> omega) | exact hM _ | exact hPo _ | exact hTa _ | exact hRo _) (fun c_113 => ?_) (fun c_113 => ?_)
                    · refine rj_iconst (pc := 121) dX11_spells_121 ?_
                      refine r_goto (pc := 122) (tgt := 126) dX11_spells_122 (by decide) ?_
                      refine r_istore_n (pc := 126) dX11_spells_126 (Nat.le_of_ble_eq_true rfl) ?_
                      dsimp only [lsSt, List.set, mLs, mEnt]
                      refine r_iload (pc := 127) dX11_spells_127 rfl ?_
                      refine rj_if_eq (pc := 129) (tgt := 135) dX11_spells_129 (by decide) (by first | assumption | exact b01_r | exact bz_r | omega | (constructor <;> omega) | exact hM _ | exact hPo _ | exact hTa _ | exact hRo _) (fun c_129 => ?_) (fun c_129 => ?_)
                      · try simp only [b01_0, bz_0, Classical.not_not] at c_129
                        refine r_aload_n (pc := 135) dX11_spells_135 rfl (by first | rfl | exact isRefV_rf _) ?_
                        refine rm_getf (pc := 136) dX11_spells_136 fX11_33 (by assumption) rfl ?_
                        refine r_aload_n (pc := 139) dX11_spells_139 rfl (by first | rfl | exact isRefV_rf _) ?_
                        refine rm_getf (pc := 140) dX11_spells_140 fX11_298 (by assumption) rfl ?_
                        refine r_iload (pc := 143) dX11_spells_143 rfl ?_
                        first | refine rm_iast6 (pc := 145) (j := w) dX11_spells_145 (by assumption) (by first | assumption | exact b01_r | exact bz_r | omega | (constructor <;> omega) | exact hM _ | exact hPo _ | exact hTa _ | exact hRo _) (by first | assumption | exact b01_r | exact bz_r | omega | (constructor <;> omega) | exact hM _ | exact hPo _ | exact hTa _ | exact hRo _) (by first | assumption | exact b01_r | exact bz_r | omega | (constructor <;> omega) | exact hM _ | exact hPo _ | exact hTa _ | exact hRo _) (by omega) (fun h_145 hB_145 hS_145 => ?_)
                        refine r_aload_n (pc := 146) dX11_spells_146 rfl (by first | rfl | exact isRefV_rf _) ?_
                        refine r_dup (pc := 147) dX11_spells_147 (by first | rfl | (cases ‹Option Nat› <;> rfl)) ?_
                        refine rm_getf (pc := 148) dX11_spells_148 fX11_298 (by assumption) rfl ?_
                        refine rj_iconst (pc := 151) dX11_spells_151 ?_
                        refine rj_iadd (pc := 152) dX11_spells_152 ?_
                        refine rm_putf (pc := 153) dX11_spells_153 fX11_298 (by assumption) rfl rfl (Nat.le_of_ble_eq_true rfl) (fun h_153 hB_153 hS_153 => ?_)
                        dsimp only [List.set, mFs] at hB_153
                        refine rj_iinc (pc := 156) dX11_spells_156 (Nat.le_of_ble_eq_true rfl) rfl ?_
                        dsimp only [lsSt, List.set, mLs, mEnt]
                        refine r_goto (pc := 159) (tgt := 10) dX11_spells_159 (by decide) ?_
                        rw [show ((p : Int) + 1) = ((p + 1 : Nat) : Int) by omega]
                        rw [spS, if_neg (fun g => c_49 g.2), if_neg (fun g => absurd g.2.2.1 (by omega))]
                        rw [show decide (dgP (pool p)) = true from decide_eq_true c_102]
                        have y := ih (p + 1) true (updI pap w (pool p)) (w + 1) _ (some (.int (J (pool p)))) (some (.int (J (b01 (48 ≤ pool p ∧ pool p ≤ 57))))) (some (.int (J 0))) (by omega) (by omega) (by omega) (by rw [show ((w + 1 : Nat) : Int) = (w : Int) + 1 by omega]; exact hB_153)
                        rw [show bz true = 1 from rfl] at y
                        exact y.mono (fun v h' q => ⟨q.1, q.2.1, (hS_145.trans hS_153).trans q.2.2⟩)
                      · try simp only [b01_0, bz_0, Classical.not_not] at c_129
                        all_goals (first | exact absurd trivial ‹¬ True› | exact absurd c_59 c_113 | exact absurd c_106 c_63 | (exfalso; omega))
                    · refine r_iload (pc := 116) dX11_spells_116 rfl ?_
                      refine rj_if_ne (pc := 118) (tgt := 125) dX11_spells_118 (by decide) (by first | assumption | exact b01_r | exact bz_r | omega | (constructor <;> omega) | exact hM _ | exact hPo _ | exact hTa _ | exact hRo _) (fun c_118 => ?_) (fun c_118 => ?_)
                      · try simp only [b01_0, bz_0, Classical.not_not] at c_118
                        all_goals (first | exact absurd trivial ‹¬ True› | exact absurd c_59 c_113 | exact absurd c_106 c_63 | (exfalso; omega))
                      · try simp only [b01_0, bz_0, Classical.not_not] at c_118
                        refine rj_iconst (pc := 121) dX11_spells_121 ?_
                        refine r_goto (pc := 122) (tgt := 126) dX11_spells_122 (by decide) ?_
                        refine r_istore_n (pc := 126) dX11_spells_126 (Nat.le_of_ble_eq_true rfl) ?_
                        dsimp only [lsSt, List.set, mLs, mEnt]
                        refine r_iload (pc := 127) dX11_spells_127 rfl ?_
                        refine rj_if_eq (pc := 129) (tgt := 135) dX11_spells_129 (by decide) (by first | assumption | exact b01_r | exact bz_r | omega | (constructor <;> omega) | exact hM _ | exact hPo _ | exact hTa _ | exact hRo _) (fun c_129 => ?_) (fun c_129 => ?_)
                        · try simp only [b01_0, bz_0, Classical.not_not] at c_129
                          refine r_aload_n (pc := 135) dX11_spells_135 rfl (by first | rfl | exact isRefV_rf _) ?_
                          refine rm_getf (pc := 136) dX11_spells_136 fX11_33 (by assumption) rfl ?_
                          refine r_aload_n (pc := 139) dX11_spells_139 rfl (by first | rfl | exact isRefV_rf _) ?_
                          refine rm_getf (pc := 140) dX11_spells_140 fX11_298 (by assumption) rfl ?_
                          refine r_iload (pc := 143) dX11_spells_143 rfl ?_
                          first | refine rm_iast6 (pc := 145) (j := w) dX11_spells_145 (by assumption) (by first | assumption | exact b01_r | exact bz_r | omega | (constructor <;> omega) | exact hM _ | exact hPo _ | exact hTa _ | exact hRo _) (by first | assumption | exact b01_r | exact bz_r | omega | (constructor <;> omega) | exact hM _ | exact hPo _ | exact hTa _ | exact hRo _) (by first | assumption | exact b01_r | exact bz_r | omega | (constructor <;> omega) | exact hM _ | exact hPo _ | exact hTa _ | exact hRo _) (by omega) (fun h_145 hB_145 hS_145 => ?_)
                          refine r_aload_n (pc := 146) dX11_spells_146 rfl (by first | rfl | exact isRefV_rf _) ?_
                          refine r_dup (pc := 147) dX11_spells_147 (by first | rfl | (cases ‹Option Nat› <;> rfl)) ?_
                          refine rm_getf (pc := 148) dX11_spells_148 fX11_298 (by assumption) rfl ?_
                          refine rj_iconst (pc := 151) dX11_spells_151 ?_
                          refine rj_iadd (pc := 152) dX11_spells_152 ?_
                          refine rm_putf (pc := 153) dX11_spells_153 fX11_298 (by assumption) rfl rfl (Nat.le_of_ble_eq_true rfl) (fun h_153 hB_153 hS_153 => ?_)
                          dsimp only [List.set, mFs] at hB_153
                          refine rj_iinc (pc := 156) dX11_spells_156 (Nat.le_of_ble_eq_true rfl) rfl ?_
                          dsimp only [lsSt, List.set, mLs, mEnt]
                          refine r_goto (pc := 159) (tgt := 10) dX11_spells_159 (by decide) ?_
                          rw [show ((p : Int) + 1) = ((p + 1 : Nat) : Int) by omega]
                          rw [spS, if_neg (fun g => c_49 g.2), if_neg (fun g => absurd g.2.2.1 (by omega))]
                          rw [show decide (dgP (pool p)) = true from decide_eq_true c_102]
                          have y := ih (p + 1) true (updI pap w (pool p)) (w + 1) _ (some (.int (J (pool p)))) (some (.int (J (b01 (48 ≤ pool p ∧ pool p ≤ 57))))) (some (.int (J 0))) (by omega) (by omega) (by omega) (by rw [show ((w + 1 : Nat) : Int) = (w : Int) + 1 by omega]; exact hB_153)
                          rw [show bz true = 1 from rfl] at y
                          exact y.mono (fun v h' q => ⟨q.1, q.2.1, (hS_145.trans hS_153).trans q.2.2⟩)
                        · try simp only [b01_0, bz_0, Classical.not_not] at c_129
                          all_goals (first | exact absurd trivial ‹¬ True› | exact absurd c_59 c_113 | exact absurd c_106 c_63 | (exfalso; omega))
              · refine r_aload_n (pc := 74) dX11_spells_74 rfl (by first | rfl | exact isRefV_rf _) ?_
                refine rm_getf (pc := 75) dX11_spells_75 fX11_21 (by assumption) rfl ?_
                refine r_iload (pc := 78) dX11_spells_78 rfl ?_
                refine rj_iconst (pc := 80) dX11_spells_80 ?_
                refine rj_iadd (pc := 81) dX11_spells_81 ?_
                refine rj_iald (pc := 82) (j := p + 1) dX11_spells_82 (by first | exact isM.g0 (by assumption) | exact isM.g3 (by assumption) | exact isM.g4 (by assumption) | exact isM.g8 (by assumption) | exact isM.g7 (by assumption) | exact isM.g6 (by assumption) | exact isM.g5 (by assumption) | exact isM.g1 (by assumption) | exact isM.g2 (by assumption)) (by first | assumption | exact b01_r | exact bz_r | omega | (constructor <;> omega) | exact hM _ | exact hPo _ | exact hTa _ | exact hRo _) (by first | assumption | exact b01_r | exact bz_r | omega | (constructor <;> omega) | exact hM _ | exact hPo _ | exact hTa _ | exact hRo _) (by first | assumption | exact b01_r | exact bz_r | omega | (constructor <;> omega) | exact hM _ | exact hPo _ | exact hTa _ | exact hRo _) (by omega) ?_
                refine rj_bipush (pc := 83) dX11_spells_83 (by decide +kernel) ?_
                refine rj_bipush (pc := 85) dX11_spells_85 (by decide +kernel) ?_
                refine r_callS3 (pc := 87) dX11_spells_87 qX11_isIn kX11_46 sX11_isIn (Nat.le_of_ble_eq_true rfl) ((m_isIn 0 rp1 (by decide) (by decide)).deeper (by omega)) (fun v_87 h_87 q_87 => ?_)
                obtain ⟨rfl, rfl⟩ := q_87
                refine rj_if_eq (pc := 90) (tgt := 97) dX11_spells_90 (by decide) (by first | assumption | exact b01_r | exact bz_r | omega | (constructor <;> omega) | exact hM _ | exact hPo _ | exact hTa _ | exact hRo _) (fun c_90 => ?_) (fun c_90 => ?_)
                · try simp only [b01_0, bz_0, Classical.not_not] at c_90
                  refine rj_iconst (pc := 97) dX11_spells_97 ?_
                  refine r_istore (pc := 98) dX11_spells_98 (Nat.le_of_ble_eq_true rfl) ?_
                  dsimp only [lsSt, List.set, mLs, mEnt]
                  refine r_iload (pc := 100) dX11_spells_100 rfl ?_
                  refine rj_if_eq (pc := 102) (tgt := 125) dX11_spells_102 (by decide) (by first | assumption | exact b01_r | exact bz_r | omega | (constructor <;> omega) | exact hM _ | exact hPo _ | exact hTa _ | exact hRo _) (fun c_102 => ?_) (fun c_102 => ?_)
                  · try simp only [b01_0, bz_0, Classical.not_not] at c_102
                    refine rj_iconst (pc := 125) dX11_spells_125 ?_
                    refine r_istore_n (pc := 126) dX11_spells_126 (Nat.le_of_ble_eq_true rfl) ?_
                    dsimp only [lsSt, List.set, mLs, mEnt]
                    refine r_iload (pc := 127) dX11_spells_127 rfl ?_
                    refine rj_if_eq (pc := 129) (tgt := 135) dX11_spells_129 (by decide) (by first | assumption | exact b01_r | exact bz_r | omega | (constructor <;> omega) | exact hM _ | exact hPo _ | exact hTa _ | exact hRo _) (fun c_129 => ?_) (fun c_129 => ?_)
                    · try simp only [b01_0, bz_0, Classical.not_not] at c_129
                      refine r_aload_n (pc := 135) dX11_spells_135 rfl (by first | rfl | exact isRefV_rf _) ?_
                      refine rm_getf (pc := 136) dX11_spells_136 fX11_33 (by assumption) rfl ?_
                      refine r_aload_n (pc := 139) dX11_spells_139 rfl (by first | rfl | exact isRefV_rf _) ?_
                      refine rm_getf (pc := 140) dX11_spells_140 fX11_298 (by assumption) rfl ?_
                      refine r_iload (pc := 143) dX11_spells_143 rfl ?_
                      first | refine rm_iast6 (pc := 145) (j := w) dX11_spells_145 (by assumption) (by first | assumption | exact b01_r | exact bz_r | omega | (constructor <;> omega) | exact hM _ | exact hPo _ | exact hTa _ | exact hRo _) (by first | assumption | exact b01_r | exact bz_r | omega | (constructor <;> omega) | exact hM _ | exact hPo _ | exact hTa _ | exact hRo _) (by first | assumption | exact b01_r | exact bz_r | omega | (constructor <;> omega) | exact hM _ | exact hPo _ | exact hTa _ | exact hRo _) (by omega) (fun h_145 hB_145 hS_145 => ?_)
                      refine r_aload_n (pc := 146) dX11_spells_146 rfl (by first | rfl | exact isRefV_rf _) ?_
                      refine r_dup (pc := 147) dX11_spells_147 (by first | rfl | (cases ‹Option Nat› <;> rfl)) ?_
                      refine rm_getf (pc := 148) dX11_spells_148 fX11_298 (by assumption) rfl ?_
                      refine rj_iconst (pc := 151) dX11_spells_151 ?_
                      refine rj_iadd (pc := 152) dX11_spells_152 ?_
                      refine rm_putf (pc := 153) dX11_spells_153 fX11_298 (by assumption) rfl rfl (Nat.le_of_ble_eq_true rfl) (fun h_153 hB_153 hS_153 => ?_)
                      dsimp only [List.set, mFs] at hB_153
                      refine rj_iinc (pc := 156) dX11_spells_156 (Nat.le_of_ble_eq_true rfl) rfl ?_
                      dsimp only [lsSt, List.set, mLs, mEnt]
                      refine r_goto (pc := 159) (tgt := 10) dX11_spells_159 (by decide) ?_
                      rw [show ((p : Int) + 1) = ((p + 1 : Nat) : Int) by omega]
                      rw [spS, if_neg (fun g => c_49 g.2), if_neg (fun g => c_90 g.2.2.2)]
                      rw [show decide (dgP (pool p)) = false from decide_eq_false c_102]
                      have y := ih (p + 1) false (updI pap w (pool p)) (w + 1) _ (some (.int (J (pool p)))) (some (.int (J (b01 (48 ≤ pool p ∧ pool p ≤ 57))))) (some (.int (J 0))) (by omega) (by omega) (by omega) (by rw [show ((w + 1 : Nat) : Int) = (w : Int) + 1 by omega]; exact hB_153)
                      rw [show bz false = 0 from rfl] at y
                      exact y.mono (fun v h' q => ⟨q.1, q.2.1, (hS_145.trans hS_153).trans q.2.2⟩)
                    · try simp only [b01_0, bz_0, Classical.not_not] at c_129
                      all_goals (first | exact absurd trivial ‹¬ True› | exact absurd c_59 c_113 | exact absurd c_106 c_63 | (exfalso; omega))
                  · try simp only [b01_0, bz_0, Classical.not_not] at c_102
                    refine r_iload_n (pc := 105) dX11_spells_105 rfl ?_
                    refine rj_if_ne (pc := 106) (tgt := 121) dX11_spells_106 (by decide) (by first | assumption | exact b01_r | exact bz_r | omega | (constructor <;> omega) | exact hM _ | exact hPo _ | exact hTa _ | exact hRo _) (fun c_106 => ?_) (fun c_106 => ?_)
                    · try simp only [b01_0, bz_0, Classical.not_not] at c_106
                      refine rj_iconst (pc := 121) dX11_spells_121 ?_
                      refine r_goto (pc := 122) (tgt := 126) dX11_spells_122 (by decide) ?_
                      refine r_istore_n (pc := 126) dX11_spells_126 (Nat.le_of_ble_eq_true rfl) ?_
                      dsimp only [lsSt, List.set, mLs, mEnt]
                      refine r_iload (pc := 127) dX11_spells_127 rfl ?_
                      refine rj_if_eq (pc := 129) (tgt := 135) dX11_spells_129 (by decide) (by first | assumption | exact b01_r | exact bz_r | omega | (constructor <;> omega) | exact hM _ | exact hPo _ | exact hTa _ | exact hRo _) (fun c_129 => ?_) (fun c_129 => ?_)
                      · try simp only [b01_0, bz_0, Classical.not_not] at c_129
                        refine r_aload_n (pc := 135) dX11_spells_135 rfl (by first | rfl | exact isRefV_rf _) ?_
                        refine rm_getf (pc := 136) dX11_spells_136 fX11_33 (by assumption) rfl ?_
                        refine r_aload_n (pc := 139) dX11_spells_139 rfl (by first | rfl | exact isRefV_rf _) ?_
                        refine rm_getf (pc := 140) dX11_spells_140 fX11_298 (by assumption) rfl ?_
                        refine r_iload (pc := 143) dX11_spells_143 rfl ?_
                        first | refine rm_iast6 (pc := 145) (j := w) dX11_spells_145 (by assumption) (by first | assumption | exact b01_r | exact bz_r | omega | (constructor <;> omega) | exact hM _ | exact hPo _ | exact hTa _ | exact hRo _) (by first | assumption | exact b01_r | exact bz_r | omega | (constructor <;> omega) | exact hM _ | exact hPo _ | exact hTa _ | exact hRo _) (by first | assumption | exact b01_r | exact bz_r | omega | (constructor <;> omega) | exact hM _ | exact hPo _ | exact hTa _ | exact hRo _) (by omega) (fun h_145 hB_145 hS_145 => ?_)
                        refine r_aload_n (pc := 146) dX11_spells_146 rfl (by first | rfl | exact isRefV_rf _) ?_
                        refine r_dup (pc := 147) dX11_spells_147 (by first | rfl | (cases ‹Option Nat› <;> rfl)) ?_
                        refine rm_getf (pc := 148) dX11_spells_148 fX11_298 (by assumption) rfl ?_
                        refine rj_iconst (pc := 151) dX11_spells_151 ?_
                        refine rj_iadd (pc := 152) dX11_spells_152 ?_
                        refine rm_putf (pc := 153) dX11_spells_153 fX11_298 (by assumption) rfl rfl (Nat.le_of_ble_eq_true rfl) (fun h_153 hB_153 hS_153 => ?_)
                        dsimp only [List.set, mFs] at hB_153
                        refine rj_iinc (pc := 156) dX11_spells_156 (Nat.le_of_ble_eq_true rfl) rfl ?_
                        dsimp only [lsSt, List.set, mLs, mEnt]
                        refine r_goto (pc := 159) (tgt := 10) dX11_spells_159 (by decide) ?_
                        rw [show ((p : Int) + 1) = ((p + 1 : Nat) : Int) by omega]
                        rw [spS, if_neg (fun g => c_49 g.2), if_neg (fun g => c_90 g.2.2.2)]
                        rw [show decide (dgP (pool p)) = true from decide_eq_true c_102]
                        have y := ih (p + 1) true (updI pap w (pool p)) (w + 1) _ (some (.int (J (pool p)))) (some (.int (J (b01 (48 ≤ pool p ∧ pool p ≤ 57))))) (some (.int (J 0))) (by omega) (by omega) (by omega) (by rw [show ((w + 1 : Nat) : Int) = (w : Int) + 1 by omega]; exact hB_153)
                        rw [show bz true = 1 from rfl] at y
                        exact y.mono (fun v h' q => ⟨q.1, q.2.1, (hS_145.trans hS_153).trans q.2.2⟩)
                      · try simp only [b01_0, bz_0, Classical.not_not] at c_129
                        all_goals (first | exact absurd trivial ‹¬ True› | exact absurd c_59 c_113 | exact absurd c_106 c_63 | (exfalso; omega))
                    · try simp only [b01_0, bz_0, Classical.not_not] at c_106
                      refine r_iload (pc := 109) dX11_spells_109 rfl ?_
                      refine rj_bipush (pc := 111) dX11_spells_111 (by decide +kernel) ?_
                      refine rj_icmp_ne (pc := 113) (tgt := 121) dX11_spells_113 (by decide) (by first | assumption | exact b01_r | exact bz_r | omega | (constructor <;> omega) | exact hM _ | exact hPo _ | exact hTa _ | exact hRo _) (by first | assumption | exact b01_r | exact bz_r | omega | (constructor <;> omega) | exact hM _ | exact hPo _ | exact hTa _ | exact hRo _) (fun c_113 => ?_) (fun c_113 => ?_)
                      · refine rj_iconst (pc := 121) dX11_spells_121 ?_
                        refine r_goto (pc := 122) (tgt := 126) dX11_spells_122 (by decide) ?_
                        refine r_istore_n (pc := 126) dX11_spells_126 (Nat.le_of_ble_eq_true rfl) ?_
                        dsimp only [lsSt, List.set, mLs, mEnt]
                        refine r_iload (pc := 127) dX11_spells_127 rfl ?_
                        refine rj_if_eq (pc := 129) (tgt := 135) dX11_spells_129 (by decide) (by first | assumption | exact b01_r | exact bz_r | omega | (constructor <;> omega) | exact hM _ | exact hPo _ | exact hTa _ | exact hRo _) (fun c_129 => ?_) (fun c_129 => ?_)
                        · try simp only [b01_0, bz_0, Classical.not_not] at c_129
                          refine r_aload_n (pc := 135) dX11_spells_135 rfl (by first | rfl | exact isRefV_rf _) ?_
                          refine rm_getf (pc := 136) dX11_spells_136 fX11_33 (by assumption) rfl ?_
                          refine r_aload_n (pc := 139) dX11_spells_139 rfl (by first | rfl | exact isRefV_rf _) ?_
                          refine rm_getf (pc := 140) dX11_spells_140 fX11_298 (by assumption) rfl ?_
                          refine r_iload (pc := 143) dX11_spells_143 rfl ?_
                          first | refine rm_iast6 (pc := 145) (j := w) dX11_spells_145 (by assumption) (by first | assumption | exact b01_r | exact bz_r | omega | (constructor <;> omega) | exact hM _ | exact hPo _ | exact hTa _ | exact hRo _) (by first | assumption | exact b01_r | exact bz_r | omega | (constructor <;> omega) | exact hM _ | exact hPo _ | exact hTa _ | exact hRo _) (by first | assumption | exact b01_r | exact bz_r | omega | (constructor <;> omega) | exact hM _ | exact hPo _ | exact hTa _ | exact hRo _) (by omega) (fun h_145 hB_145 hS_145 => ?_)
                          refine r_aload_n (pc := 146) dX11_spells_146 rfl (by first | rfl | exact isRefV_rf _) ?_
                          refine r_dup (pc := 147) dX11_spells_147 (by first | rfl | (cases ‹Option Nat› <;> rfl)) ?_
                          refine rm_getf (pc := 148) dX11_spells_148 fX11_298 (by assumption) rfl ?_
                          refine rj_iconst (pc := 151) dX11_spells_151 ?_
                          refine rj_iadd (pc := 152) dX11_spells_152 ?_
                          refine rm_putf (pc := 153) dX11_spells_153 fX11_298 (by assumption) rfl rfl (Nat.le_of_ble_eq_true rfl) (fun h_153 hB_153 hS_153 => ?_)
                          dsimp only [List.set, mFs] at hB_153
                          refine rj_iinc (pc := 156) dX11_spells_156 (Nat.le_of_ble_eq_true rfl) rfl ?_
                          dsimp only [lsSt, List.set, mLs, mEnt]
                          refine r_goto (pc := 159) (tgt := 10) dX11_spells_159 (by decide) ?_
                          rw [show ((p : Int) + 1) = ((p + 1 : Nat) : Int) by omega]
                          rw [spS, if_neg (fun g => c_49 g.2), if_neg (fun g => c_90 g.2.2.2)]
                          rw [show decide (dgP (pool p)) = true from decide_eq_true c_102]
                          have y := ih (p + 1) true (updI pap w (pool p)) (w + 1) _ (some (.int (J (pool p)))) (some (.int (J (b01 (48 ≤ pool p ∧ pool p ≤ 57))))) (some (.int (J 0))) (by omega) (by omega) (by omega) (by rw [show ((w + 1 : Nat) : Int) = (w : Int) + 1 by omega]; exact hB_153)
                          rw [show bz true = 1 from rfl] at y
                          exact y.mono (fun v h' q => ⟨q.1, q.2.1, (hS_145.trans hS_153).trans q.2.2⟩)
                        · try simp only [b01_0, bz_0, Classical.not_not] at c_129
                          all_goals (first | exact absurd trivial ‹¬ True› | exact absurd c_59 c_113 | exact absurd c_106 c_63 | (exfalso; omega))
                      · refine r_iload (pc := 116) dX11_spells_116 rfl ?_
                        refine rj_if_ne (pc := 118) (tgt := 125) dX11_spells_118 (by decide) (by first | assumption | exact b01_r | exact bz_r | omega | (constructor <;> omega) | exact hM _ | exact hPo _ | exact hTa _ | exact hRo _) (fun c_118 => ?_) (fun c_118 => ?_)
                        · try simp only [b01_0, bz_0, Classical.not_not] at c_118
                          all_goals (first | exact absurd trivial ‹¬ True› | exact absurd c_59 c_113 | exact absurd c_106 c_63 | (exfalso; omega))
                        · try simp only [b01_0, bz_0, Classical.not_not] at c_118
                          refine rj_iconst (pc := 121) dX11_spells_121 ?_
                          refine r_goto (pc := 122) (tgt := 126) dX11_spells_122 (by decide) ?_
                          refine r_istore_n (pc := 126) dX11_spells_126 (Nat.le_of_ble_eq_true rfl) ?_
                          dsimp only [lsSt, List.set, mLs, mEnt]
                          refine r_iload (pc := 127) dX11_spells_127 rfl ?_
                          refine rj_if_eq (pc := 129) (tgt := 135) dX11_spells_129 (by decide) (by first | assumption | exact b01_r | exact bz_r | omega | (constructor <;> omega) | exact hM _ | exact hPo _ | exact hTa _ | exact hRo _) (fun c_129 => ?_) (fun c_129 => ?_)
                          · try simp only [b01_0, bz_0, Classical.not_not] at c_129
                            refine r_aload_n (pc := 135) dX11_spells_135 rfl (by first | rfl | exact isRefV_rf _) ?_
                            refine rm_getf (pc := 136) dX11_spells_136 fX11_33 (by assumption) rfl ?_
                            refine r_aload_n (pc := 139) dX11_spells_139 rfl (by first | rfl | exact isRefV_rf _) ?_
                            refine rm_getf (pc := 140) dX11_spells_140 fX11_298 (by assumption) rfl ?_
                            refine r_iload (pc := 143) dX11_spells_143 rfl ?_
                            first | refine rm_iast6 (pc := 145) (j := w) dX11_spells_145 (by assumption) (by first | assumption | exact b01_r | exact bz_r | omega | (constructor <;> omega) | exact hM _ | exact hPo _ | exact hTa _ | exact hRo _) (by first | assumption | exact b01_r | exact bz_r | omega | (constructor <;> omega) | exact hM _ | exact hPo _ | exact hTa _ | exact hRo _) (by first | assumption | exact b01_r | exact bz_r | omega | (constructor <;> omega) | exact hM _ | exact hPo _ | exact hTa _ | exact hRo _) (by omega) (fun h_145 hB_145 hS_145 => ?_)
                            refine r_aload_n (pc := 146) dX11_spells_146 rfl (by first | rfl | exact isRefV_rf _) ?_
                            refine r_dup (pc := 147) dX11_spells_147 (by first | rfl | (cases ‹Option Nat› <;> rfl)) ?_
                            refine rm_getf (pc := 148) dX11_spells_148 fX11_298 (by assumption) rfl ?_
                            refine rj_iconst (pc := 151) dX11_spells_151 ?_
                            refine rj_iadd (pc := 152) dX11_spells_152 ?_
                            refine rm_putf (pc := 153) dX11_spells_153 fX11_298 (by assumption) rfl rfl (Nat.le_of_ble_eq_true rfl) (fun h_153 hB_153 hS_153 => ?_)
                            dsimp only [List.set, mFs] at hB_153
                            refine rj_iinc (pc := 156) dX11_spells_156 (Nat.le_of_ble_eq_true rfl) rfl ?_
                            dsimp only [lsSt, List.set, mLs, mEnt]
                            refine r_goto (pc := 159) (tgt := 10) dX11_spells_159 (by decide) ?_
                            rw [show ((p : Int) + 1) = ((p + 1 : Nat) : Int) by omega]
                            rw [spS, if_neg (fun g => c_49 g.2), if_neg (fun g => c_90 g.2.2.2)]
                            rw [show decide (dgP (pool p)) = true from decide_eq_true c_102]
                            have y := ih (p + 1) true (updI pap w (pool p)) (w + 1) _ (some (.int (J (pool p)))) (some (.int (J (b01 (48 ≤ pool p ∧ pool p ≤ 57))))) (some (.int (J 0))) (by omega) (by omega) (by omega) (by rw [show ((w + 1 : Nat) : Int) = (w : Int) + 1 by omega]; exact hB_153)
                            rw [show bz true = 1 from rfl] at y
                            exact y.mono (fun v h' q => ⟨q.1, q.2.1, (hS_145.trans hS_153).trans q.2.2⟩)
                          · try simp only [b01_0, bz_0, Classical.not_not] at c_129
                            all_goals (first | exact absurd trivial ‹¬ True› | exact absurd c_59 c_113 | exact absurd c_106 c_63 | (exfalso; omega))
                · try simp only [b01_0, bz_0, Classical.not_not] at c_90
                  refine rj_iconst (pc := 93) dX11_spells_93 ?_
                  refine r_goto (pc := 94) (tgt := 98) dX11_spells_94 (by decide) ?_
                  refine r_istore (pc := 98) dX11_spells_98 (Nat.le_of_ble_eq_true rfl) ?_
                  dsimp only [lsSt, List.set, mLs, mEnt]
                  refine r_iload (pc := 100) dX11_spells_100 rfl ?_
                  refine rj_if_eq (pc := 102) (tgt := 125) dX11_spells_102 (by decide) (by first | assumption | exact b01_r | exact bz_r | omega | (constructor <;> omega) | exact hM _ | exact hPo _ | exact hTa _ | exact hRo _) (fun c_102 => ?_) (fun c_102 => ?_)
                  · try simp only [b01_0, bz_0, Classical.not_not] at c_102
                    all_goals (first | exact absurd trivial ‹¬ True› | exact absurd c_59 c_113 | exact absurd c_106 c_63 | (exfalso; omega))
                  · try simp only [b01_0, bz_0, Classical.not_not] at c_102
                    refine r_iload_n (pc := 105) dX11_spells_105 rfl ?_
                    refine rj_if_ne (pc := 106) (tgt := 121) dX11_spells_106 (by decide) (by first | assumption | exact b01_r | exact bz_r | omega | (constructor <;> omega) | exact hM _ | exact hPo _ | exact hTa _ | exact hRo _) (fun c_106 => ?_) (fun c_106 => ?_)
                    · try simp only [b01_0, bz_0, Classical.not_not] at c_106
                      all_goals (first | exact absurd trivial ‹¬ True› | exact absurd c_59 c_113 | exact absurd c_106 c_63 | (exfalso; omega))
                    · try simp only [b01_0, bz_0, Classical.not_not] at c_106
                      refine r_iload (pc := 109) dX11_spells_109 rfl ?_
                      refine rj_bipush (pc := 111) dX11_spells_111 (by decide +kernel) ?_
                      refine rj_icmp_ne (pc := 113) (tgt := 121) dX11_spells_113 (by decide) (by first | assumption | exact b01_r | exact bz_r | omega | (constructor <;> omega) | exact hM _ | exact hPo _ | exact hTa _ | exact hRo _) (by first | assumption | exact b01_r | exact bz_r | omega | (constructor <;> omega) | exact hM _ | exact hPo _ | exact hTa _ | exact hRo _) (fun c_113 => ?_) (fun c_113 => ?_)
                      · all_goals (first | exact absurd trivial ‹¬ True› | exact absurd c_59 c_113 | exact absurd c_106 c_63 | (exfalso; omega))
                      · refine r_iload (pc := 116) dX11_spells_116 rfl ?_
                        refine rj_if_ne (pc := 118) (tgt := 125) dX11_spells_118 (by decide) (by first | assumption | exact b01_r | exact bz_r | omega | (constructor <;> omega) | exact hM _ | exact hPo _ | exact hTa _ | exact hRo _) (fun c_118 => ?_) (fun c_118 => ?_)
                        · try simp only [b01_0, bz_0, Classical.not_not] at c_118
                          refine rj_iconst (pc := 125) dX11_spells_125 ?_
                          refine r_istore_n (pc := 126) dX11_spells_126 (Nat.le_of_ble_eq_true rfl) ?_
                          dsimp only [lsSt, List.set, mLs, mEnt]
                          refine r_iload (pc := 127) dX11_spells_127 rfl ?_
                          refine rj_if_eq (pc := 129) (tgt := 135) dX11_spells_129 (by decide) (by first | assumption | exact b01_r | exact bz_r | omega | (constructor <;> omega) | exact hM _ | exact hPo _ | exact hTa _ | exact hRo _) (fun c_129 => ?_) (fun c_129 => ?_)
                          · try simp only [b01_0, bz_0, Classical.not_not] at c_129
                            all_goals (first | exact absurd trivial ‹¬ True› | exact absurd c_59 c_113 | exact absurd c_106 c_63 | (exfalso; omega))
                          · try simp only [b01_0, bz_0, Classical.not_not] at c_129
                            refine r_goto (pc := 132) (tgt := 156) dX11_spells_132 (by decide) ?_
                            refine rj_iinc (pc := 156) dX11_spells_156 (Nat.le_of_ble_eq_true rfl) rfl ?_
                            dsimp only [lsSt, List.set, mLs, mEnt]
                            refine r_goto (pc := 159) (tgt := 10) dX11_spells_159 (by decide) ?_
                            rw [show ((p : Int) + 1) = ((p + 1 : Nat) : Int) by omega]
                            rw [spS, if_neg (fun g => c_49 g.2), if_pos ⟨c_59, by simpa using c_63, by omega, c_90⟩]
                            have y := ih (p + 1) false pap w _ (some (.int (J (pool p)))) (some (.int (J (b01 (48 ≤ pool p ∧ pool p ≤ 57))))) (some (.int (J 1))) (by omega) (by omega) (by omega) hB0
                            rw [show bz false = 0 from rfl] at y
                            exact y
                        · try simp only [b01_0, bz_0, Classical.not_not] at c_118
                          all_goals (first | exact absurd trivial ‹¬ True› | exact absurd c_59 c_113 | exact absurd c_106 c_63 | (exfalso; omega))
        · try simp only [b01_0, bz_0, Classical.not_not] at c_49
          refine r_goto (pc := 52) (tgt := 156) dX11_spells_52 (by decide) ?_
          refine rj_iinc (pc := 156) dX11_spells_156 (Nat.le_of_ble_eq_true rfl) rfl ?_
          dsimp only [lsSt, List.set, mLs, mEnt]
          refine r_goto (pc := 159) (tgt := 10) dX11_spells_159 (by decide) ?_
          rw [show ((p : Int) + 1) = ((p + 1 : Nat) : Int) by omega]
          rw [spS, if_pos ⟨c_40, c_49⟩]
          exact ih (p + 1) b pap w _ _ _ _ (by omega) (by omega) (by omega) hB0

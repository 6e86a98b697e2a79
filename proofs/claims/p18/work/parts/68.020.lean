section mg_71
set_option maxHeartbeats 4000000 in
set_option maxRecDepth 100000 in
theorem L_turn {G : mG} {l : Launch} {D : Nat} (hD : 280 ≤ D) {x s : Nat} {f4 f6 f8 f9 f10 f11 f12 f13 f14 f16 f18 : Int} {kp was pool tape pln pap rwd rw : Nat → Int} (hPo : ∀ q, InR (pool q)) {cl : (Nat → Int) → Nat → (Nat → Int) → Prop} {sh : (Nat → Int) → Int → (Nat → Int) → Prop} (hcl : ∀ (m1 m2 : Nat → Int) (t : Nat) (h : mH), isM h x (mFs x f4 f6 f8 f9 f10 f11 f12 f13 f14 f16 f18 s) m1 kp was pool tape pln pap rwd rw → cl m1 t m2 → RUNM G l D mX11_closes [.ref x, .int (J (t : Int))] h (fun v h' => v = none ∧ isM h' x (mFs x f4 f6 f8 f9 f10 f11 f12 f13 f14 f16 f18 s) m2 kp was pool tape pln pap rwd rw ∧ Same (mBlk x) h h')) (hsh : ∀ (m1 m2 : Nat → Int) (e : Int) (h : mH), isM h x (mFs x f4 f6 f8 f9 f10 f11 f12 f13 f14 f16 f18 s) m1 kp was pool tape pln pap rwd rw → sh m1 e m2 → RUNM G l D mX11_shuts [.ref x, .int (J e)] h (fun v h' => v = none ∧ isM h' x (mFs x f4 f6 f8 f9 f10 f11 f12 f13 f14 f16 f18 s) m2 kp was pool tape pln pap rwd rw ∧ Same (mBlk x) h h')) {t E : Nat} (ht : t ≤ 9) (hE : E ≤ 12342) {m' : Nat → Int} : ∀ (k : Nat) (m : Nat → Int) (p : Nat) (h : mH) (v5 : Option Value), isM h x (mFs x f4 f6 f8 f9 f10 f11 f12 f13 f14 f16 f18 s) m kp was pool tape pln pap rwd rw → p ≤ 12343 → turnLoopR pool cl sh t E k m p m' → RUN G l (D + 4) mX11_turn 92 [some (.ref x), some (.int (J (t : Int))), some (.int (J (E : Int))), some (.int (J (p : Int))), some (.int (J 1)), v5] [] h (fun v h' => v = none ∧ isM h' x (mFs x f4 f6 f8 f9 f10 f11 f12 f13 f14 f16 f18 s) m' kp was pool tape pln pap rwd rw ∧ Same (mBlk x) h h') := by
  have fin : ∀ (m : Nat → Int) (p : Nat) (h : mH) (go : Int) (v5 : Option Value), isM h x (mFs x f4 f6 f8 f9 f10 f11 f12 f13 f14 f16 f18 s) m kp was pool tape pln pap rwd rw → turnFinR sh t E m p m' → RUN G l (D + 4) mX11_turn 182 [some (.ref x), some (.int (J (t : Int))), some (.int (J (E : Int))), some (.int (J (p : Int))), some (.int (J go)), v5] [] h (fun v h' => v = none ∧ isM h' x (mFs x f4 f6 f8 f9 f10 f11 f12 f13 f14 f16 f18 s) m' kp was pool tape pln pap rwd rw ∧ Same (mBlk x) h h') := fun m p h go v5 hB hR => (L_turnFin hD hsh ht hE hB hR).deeper (by omega)
  intro k
  induction k with
  | zero =>
    intro m p h v5 hB hp hL
    have hB0 := hB
    dsimp only [mFs] at hB
    refine r_iload (pc := 92) dX11_turn_92 rfl ?_
    refine rj_if_eq (pc := 94) (tgt := 182) dX11_turn_94 (by decide) (by first | assumption | exact b01_r | exact bz_r | omega | (constructor <;> omega) | exact hM _ | exact hPo _ | exact hTa _ | exact hRo _) (fun c_94 => ?_) (fun c_94 => ?_)
    · try simp only [b01_0, bz_0, Classical.not_not] at c_94
      all_goals (first | exact absurd trivial ‹¬ True› | (exfalso; omega))
    · try simp only [b01_0, bz_0, Classical.not_not] at c_94
      refine r_iload_n (pc := 97) dX11_turn_97 rfl ?_
      refine r_iload_n (pc := 98) dX11_turn_98 rfl ?_
      refine rj_icmp_ge (pc := 99) (tgt := 182) dX11_turn_99 (by decide) (by first | assumption | exact b01_r | exact bz_r | omega | (constructor <;> omega) | exact hM _ | exact hPo _ | exact hTa _ | exact hRo _) (by first | assumption | exact b01_r | exact bz_r | omega | (constructor <;> omega) | exact hM _ | exact hPo _ | exact hTa _ | exact hRo _) (fun c_99 => ?_) (fun c_99 => ?_)
      · exact fin m p h _ _ hB0 hL.2
      · exfalso; have := hL.1; omega
  | succ k ih =>
    intro m p h v5 hB hp hL
    have hB0 := hB
    rcases hL with ⟨hEp, hL⟩ | ⟨hpE, f, m1, hdo, hf, hM1, hL⟩
    · dsimp only [mFs] at hB
      refine r_iload (pc := 92) dX11_turn_92 rfl ?_
      refine rj_if_eq (pc := 94) (tgt := 182) dX11_turn_94 (by decide) (by first | assumption | exact b01_r | exact bz_r | omega | (constructor <;> omega) | exact hM _ | exact hPo _ | exact hTa _ | exact hRo _) (fun c_94 => ?_) (fun c_94 => ?_)
      · try simp only [b01_0, bz_0, Classical.not_not] at c_94
        all_goals (first | exact absurd trivial ‹¬ True› | (exfalso; omega))
      · try simp only [b01_0, bz_0, Classical.not_not] at c_94
        refine r_iload_n (pc := 97) dX11_turn_97 rfl ?_
        refine r_iload_n (pc := 98) dX11_turn_98 rfl ?_
        refine rj_icmp_ge (pc := 99) (tgt := 182) dX11_turn_99 (by decide) (by first | assumption | exact b01_r | exact bz_r | omega | (constructor <;> omega) | exact hM _ | exact hPo _ | exact hTa _ | exact hRo _) (by first | assumption | exact b01_r | exact bz_r | omega | (constructor <;> omega) | exact hM _ | exact hPo _ | exact hTa _ | exact hRo _) (fun c_99 => ?_) (fun c_99 => ?_)
        · exact fin m p h _ _ hB0 hL
        · exfalso; omega
    · dsimp only [mFs] at hB
      have rp := hPo p
      have hb := behL_r (pool := pool) (E - p) p 0
      rcases hL with ⟨hne, hL⟩ | ⟨rfl, hL⟩
      · refine r_iload (pc := 92) dX11_turn_92 rfl ?_
        refine rj_if_eq (pc := 94) (tgt := 182) dX11_turn_94 (by decide) (by first | assumption | exact b01_r | exact bz_r | omega | (constructor <;> omega) | exact hM _ | exact hPo _ | exact hTa _ | exact hRo _) (fun c_94 => ?_) (fun c_94 => ?_)
        · try simp only [b01_0, bz_0, Classical.not_not] at c_94
          all_goals (first | exact absurd trivial ‹¬ True› | (exfalso; omega))
        · try simp only [b01_0, bz_0, Classical.not_not] at c_94
          refine r_iload_n (pc := 97) dX11_turn_97 rfl ?_
          refine r_iload_n (pc := 98) dX11_turn_98 rfl ?_
          refine rj_icmp_ge (pc := 99) (tgt := 182) dX11_turn_99 (by decide) (by first | assumption | exact b01_r | exact bz_r | omega | (constructor <;> omega) | exact hM _ | exact hPo _ | exact hTa _ | exact hRo _) (by first | assumption | exact b01_r | exact bz_r | omega | (constructor <;> omega) | exact hM _ | exact hPo _ | exact hTa _ | exact hRo _) (fun c_99 => ?_) (fun c_99 => ?_)
          · exfalso; omega
          · refine r_aload_n (pc := 102) dX11_turn_102 rfl (by first | rfl | exact isRefV_rf _) ?_
            refine r_iload_n (pc := 103) dX11_turn_103 rfl ?_
            refine r_iload_n (pc := 104) dX11_turn_104 rfl ?_
            refine r_callV2 (pc := 105) dX11_turn_105 qX11_doesIn kX11_195 vX11_doesIn (by exact isM.gx (by assumption)) rfl rfl (Nat.le_of_ble_eq_true rfl) ((m_doesIn hD hPo hcl hsh hB0 hdo).deeper (by omega)) (fun v_105 h_105 q_105 => ?_)
            obtain ⟨rfl, hB_105, S_105⟩ := q_105
            refine r_istore (pc := 108) dX11_turn_108 (Nat.le_of_ble_eq_true rfl) ?_
            dsimp only [lsSt, List.set, mLs, mEnt]
            refine r_iload (pc := 110) dX11_turn_110 rfl ?_
            refine rj_if_eq (pc := 112) (tgt := 136) dX11_turn_112 (by decide) (by first | assumption | exact b01_r | exact bz_r | omega | (constructor <;> omega) | exact hM _ | exact hPo _ | exact hTa _ | exact hRo _) (fun c_112 => ?_) (fun c_112 => ?_)
            · try simp only [b01_0, bz_0, Classical.not_not] at c_112
              exact absurd c_112 hne
            · try simp only [b01_0, bz_0, Classical.not_not] at c_112
              refine r_aload_n (pc := 115) dX11_turn_115 rfl (by first | rfl | exact isRefV_rf _) ?_
              refine rm_getf (pc := 116) dX11_turn_116 fX11_11 (by assumption) rfl ?_
              refine r_iload_n (pc := 119) dX11_turn_119 rfl ?_
              refine rj_bipush (pc := 120) dX11_turn_120 (by decide +kernel) ?_
              refine rj_iconst (pc := 122) dX11_turn_122 ?_
              refine r_callS3 (pc := 123) dX11_turn_123 qX11_ofTask kX11_58 sX11_ofTask (Nat.le_of_ble_eq_true rfl) (m_ofTask _) (fun v_123 h_123 q_123 => ?_)
              obtain ⟨rfl, rfl⟩ := q_123
              refine r_iload (pc := 126) dX11_turn_126 rfl ?_
              first | refine rm_iast0 (pc := 128) (j := 1618 + 72 * t) dX11_turn_128 (by assumption) (by first | assumption | exact b01_r | exact bz_r | omega | (constructor <;> omega) | exact hM _ | exact hPo _ | exact hTa _ | exact hRo _) (by first | assumption | exact b01_r | exact bz_r | omega | (constructor <;> omega) | exact hM _ | exact hPo _ | exact hTa _ | exact hRo _) (by first | assumption | exact b01_r | exact bz_r | omega | (constructor <;> omega) | exact hM _ | exact hPo _ | exact hTa _ | exact hRo _) (by omega) (fun h_128 hB_128 hS_128 => ?_)
              refine r_aload_n (pc := 129) dX11_turn_129 rfl (by first | rfl | exact isRefV_rf _) ?_
              refine r_iload_n (pc := 130) dX11_turn_130 rfl ?_
              refine rj_iconst (pc := 131) dX11_turn_131 ?_
              refine r_callV2 (pc := 132) dX11_turn_132 qX11_isOver kX11_192 vX11_isOver (by exact isM.gx (by assumption)) rfl rfl (Nat.le_of_ble_eq_true rfl) ((m_isOver hD hsh hB_128 hL).deeper (by omega)) (fun v_132 h_132 q_132 => ?_)
              obtain ⟨rfl, hB_132, S_132⟩ := q_132
              refine r_return (pc := 135) dX11_turn_135 rfl ?_
              exact ⟨rfl, hB_132, (S_105.trans hS_128).trans S_132⟩
      · refine r_iload (pc := 92) dX11_turn_92 rfl ?_
        refine rj_if_eq (pc := 94) (tgt := 182) dX11_turn_94 (by decide) (by first | assumption | exact b01_r | exact bz_r | omega | (constructor <;> omega) | exact hM _ | exact hPo _ | exact hTa _ | exact hRo _) (fun c_94 => ?_) (fun c_94 => ?_)
        · try simp only [b01_0, bz_0, Classical.not_not] at c_94
          all_goals (first | exact absurd trivial ‹¬ True› | (exfalso; omega))
        · try simp only [b01_0, bz_0, Classical.not_not] at c_94
          refine r_iload_n (pc := 97) dX11_turn_97 rfl ?_
          refine r_iload_n (pc := 98) dX11_turn_98 rfl ?_
          refine rj_icmp_ge (pc := 99) (tgt := 182) dX11_turn_99 (by decide) (by first | assumption | exact b01_r | exact bz_r | omega | (constructor <;> omega) | exact hM _ | exact hPo _ | exact hTa _ | exact hRo _) (by first | assumption | exact b01_r | exact bz_r | omega | (constructor <;> omega) | exact hM _ | exact hPo _ | exact hTa _ | exact hRo _) (fun c_99 => ?_) (fun c_99 => ?_)
          · exfalso; omega
          · refine r_aload_n (pc := 102) dX11_turn_102 rfl (by first | rfl | exact isRefV_rf _) ?_
            refine r_iload_n (pc := 103) dX11_turn_103 rfl ?_
            refine r_iload_n (pc := 104) dX11_turn_104 rfl ?_
            refine r_callV2 (pc := 105) dX11_turn_105 qX11_doesIn kX11_195 vX11_doesIn (by exact isM.gx (by assumption)) rfl rfl (Nat.le_of_ble_eq_true rfl) ((m_doesIn hD hPo hcl hsh hB0 hdo).deeper (by omega)) (fun v_105 h_105 q_105 => ?_)
            obtain ⟨rfl, hB_105, S_105⟩ := q_105
            refine r_istore (pc := 108) dX11_turn_108 (Nat.le_of_ble_eq_true rfl) ?_
            dsimp only [lsSt, List.set, mLs, mEnt]
            refine r_iload (pc := 110) dX11_turn_110 rfl ?_
            refine rj_if_eq (pc := 112) (tgt := 136) dX11_turn_112 (by decide) (by first | assumption | exact b01_r | exact bz_r | omega | (constructor <;> omega) | exact hM _ | exact hPo _ | exact hTa _ | exact hRo _) (fun c_112 => ?_) (fun c_112 => ?_)
            · try simp only [b01_0, bz_0, Classical.not_not] at c_112
              refine r_aload_n (pc := 136) dX11_turn_136 rfl (by first | rfl | exact isRefV_rf _) ?_
              refine rm_getf (pc := 137) dX11_turn_137 fX11_11 (by assumption) rfl ?_
              refine r_iload_n (pc := 140) dX11_turn_140 rfl ?_
              refine rj_bipush (pc := 141) dX11_turn_141 (by decide +kernel) ?_
              refine rj_iconst (pc := 143) dX11_turn_143 ?_
              refine r_callS3 (pc := 144) dX11_turn_144 qX11_ofTask kX11_58 sX11_ofTask (Nat.le_of_ble_eq_true rfl) (m_ofTask _) (fun v_144 h_144 q_144 => ?_)
              obtain ⟨rfl, rfl⟩ := q_144
              refine r_dup2 (pc := 147) dX11_turn_147 rfl rfl ?_
              refine rj_iald (pc := 148) (j := 1615 + 72 * t) dX11_turn_148 (by first | exact isM.g0 (by assumption) | exact isM.g3 (by assumption) | exact isM.g4 (by assumption) | exact isM.g8 (by assumption) | exact isM.g7 (by assumption) | exact isM.g6 (by assumption) | exact isM.g5 (by assumption) | exact isM.g1 (by assumption) | exact isM.g2 (by assumption)) (by first | assumption | exact b01_r | exact bz_r | omega | (constructor <;> omega) | exact hM _ | exact hPo _ | exact hTa _ | exact hRo _) (by first | assumption | exact b01_r | exact bz_r | omega | (constructor <;> omega) | exact hM _ | exact hPo _ | exact hTa _ | exact hRo _) (by first | assumption | exact b01_r | exact bz_r | omega | (constructor <;> omega) | exact hM _ | exact hPo _ | exact hTa _ | exact hRo _) (by omega) ?_
              refine rj_iconst (pc := 149) dX11_turn_149 ?_
              refine rj_iadd (pc := 150) dX11_turn_150 ?_
              first | refine rm_iast0 (pc := 151) (j := 1615 + 72 * t) dX11_turn_151 (by assumption) (by first | assumption | exact b01_r | exact bz_r | omega | (constructor <;> omega) | exact hM _ | exact hPo _ | exact hTa _ | exact hRo _) (by first | assumption | exact b01_r | exact bz_r | omega | (constructor <;> omega) | exact hM _ | exact hPo _ | exact hTa _ | exact hRo _) (by first | assumption | exact b01_r | exact bz_r | omega | (constructor <;> omega) | exact hM _ | exact hPo _ | exact hTa _ | exact hRo _) (by omega) (fun h_151 hB_151 hS_151 => ?_)
              refine r_aload_n (pc := 152) dX11_turn_152 rfl (by first | rfl | exact isRefV_rf _) ?_
              refine rm_getf (pc := 153) dX11_turn_153 fX11_21 (by assumption) rfl ?_
              refine r_iload_n (pc := 156) dX11_turn_156 rfl ?_
              refine rj_iald (pc := 157) (j := p) dX11_turn_157 (by first | exact isM.g0 (by assumption) | exact isM.g3 (by assumption) | exact isM.g4 (by assumption) | exact isM.g8 (by assumption) | exact isM.g7 (by assumption) | exact isM.g6 (by assumption) | exact isM.g5 (by assumption) | exact isM.g1 (by assumption) | exact isM.g2 (by assumption)) (by first | assumption | exact b01_r | exact bz_r | omega | (constructor <;> omega) | exact hM _ | exact hPo _ | exact hTa _ | exact hRo _) (by first | assumption | exact b01_r | exact bz_r | omega | (constructor <;> omega) | exact hM _ | exact hPo _ | exact hTa _ | exact hRo _) (by first | assumption | exact b01_r | exact bz_r | omega | (constructor <;> omega) | exact hM _ | exact hPo _ | exact hTa _ | exact hRo _) (by omega) ?_
              refine rj_bipush (pc := 158) dX11_turn_158 (by decide +kernel) ?_
              refine rj_icmp_eq (pc := 160) (tgt := 167) dX11_turn_160 (by decide) (by first | assumption | exact b01_r | exact bz_r | omega | (constructor <;> omega) | exact hM _ | exact hPo _ | exact hTa _ | exact hRo _) (by first | assumption | exact b01_r | exact bz_r | omega | (constructor <;> omega) | exact hM _ | exact hPo _ | exact hTa _ | exact hRo _) (fun c_160 => ?_) (fun c_160 => ?_)
              · refine rj_iconst (pc := 167) dX11_turn_167 ?_
                refine r_istore (pc := 168) dX11_turn_168 (Nat.le_of_ble_eq_true rfl) ?_
                dsimp only [lsSt, List.set, mLs, mEnt]
                refine r_aload_n (pc := 170) dX11_turn_170 rfl (by first | rfl | exact isRefV_rf _) ?_
                refine r_iload_n (pc := 171) dX11_turn_171 rfl ?_
                refine r_iload_n (pc := 172) dX11_turn_172 rfl ?_
                refine r_callV2 (pc := 173) dX11_turn_173 qX11_behind kX11_139 vX11_behind (by exact isM.gx (by assumption)) rfl rfl (Nat.le_of_ble_eq_true rfl) ((m_behind (G := G) (l := l) 0 hB_151 hPo (p := p) (E := E) (by omega) hE).deeper (by omega)) (fun v_173 h_173 q_173 => ?_)
                obtain ⟨rfl, rfl⟩ := q_173
                refine rj_iconst (pc := 176) dX11_turn_176 ?_
                refine rj_iadd (pc := 177) dX11_turn_177 ?_
                refine r_istore_n (pc := 178) dX11_turn_178 (Nat.le_of_ble_eq_true rfl) ?_
                dsimp only [lsSt, List.set, mLs, mEnt]
                refine r_goto (pc := 179) (tgt := 92) dX11_turn_179 (by decide) ?_
                rcases hL with ⟨hk, hL⟩ | ⟨hk, hL⟩
                · refine RUN.mono (L_goes0 (G := G) (l := l) (fin _ (behL pool (E - p) p 0 + 1) _ 0 _ hB_151 hL)) (fun v h' q => ⟨q.1, q.2.1, (S_105.trans hS_151).trans q.2.2⟩)
                · exact absurd c_160 hk
              · refine rj_iconst (pc := 163) dX11_turn_163 ?_
                refine r_goto (pc := 164) (tgt := 168) dX11_turn_164 (by decide) ?_
                refine r_istore (pc := 168) dX11_turn_168 (Nat.le_of_ble_eq_true rfl) ?_
                dsimp only [lsSt, List.set, mLs, mEnt]
                refine r_aload_n (pc := 170) dX11_turn_170 rfl (by first | rfl | exact isRefV_rf _) ?_
                refine r_iload_n (pc := 171) dX11_turn_171 rfl ?_
                refine r_iload_n (pc := 172) dX11_turn_172 rfl ?_
                refine r_callV2 (pc := 173) dX11_turn_173 qX11_behind kX11_139 vX11_behind (by exact isM.gx (by assumption)) rfl rfl (Nat.le_of_ble_eq_true rfl) ((m_behind (G := G) (l := l) 0 hB_151 hPo (p := p) (E := E) (by omega) hE).deeper (by omega)) (fun v_173 h_173 q_173 => ?_)
                obtain ⟨rfl, rfl⟩ := q_173
                refine rj_iconst (pc := 176) dX11_turn_176 ?_
                refine rj_iadd (pc := 177) dX11_turn_177 ?_
                refine r_istore_n (pc := 178) dX11_turn_178 (Nat.le_of_ble_eq_true rfl) ?_
                dsimp only [lsSt, List.set, mLs, mEnt]
                refine r_goto (pc := 179) (tgt := 92) dX11_turn_179 (by decide) ?_
                rcases hL with ⟨hk, hL⟩ | ⟨hk, hL⟩
                · exact absurd hk c_160
                · exact (ih _ (behL pool (E - p) p 0 + 1) _ _ hB_151 (by omega) hL).mono (fun v h' q => ⟨q.1, q.2.1, (S_105.trans hS_151).trans q.2.2⟩)
            · try simp only [b01_0, bz_0, Classical.not_not] at c_112
              all_goals (first | exact absurd trivial ‹¬ True› | (exfalso; omega))
end mg_71

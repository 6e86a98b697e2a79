section mg_75
set_option maxHeartbeats 4000000 in
set_option maxRecDepth 100000 in
theorem L_takeT {G : mG} {l : Launch} {h : mH} {x len E : Nat} {f4 f14 f16 f18 : Int} {m kp was pool tape pln pap rwd rw : Nat → Int} {r : Bool × PS} (hB : isM h x (mFs x f4 0 r.2.1 (len : Int) r.2.2.1 r.2.2.2.1 r.2.2.2.2.1 r.2.2.2.2.2 f14 f16 f18 4) m kp was pool tape pln pap rwd rw) (hok : mOk m) (hT : bytesOk tape) (hl : len ≤ 120) (hq : psOk len r.2) (h8 : 0 ≤ m 8 ∧ m 8 + 130 ≤ 12342) (hE : E ≤ len) (hE7 : E ≤ 7) {a : Int} : RUN G l 40 mX11_take 82 [some (.ref x), some (.int (J a)), some (.int (J (len : Int))), some (.int (J (bz r.1))), some (.int (J (E : Int))), none] [] h (fun v h' => v = some (.int (J (takeF m pool tape a len E r).1)) ∧ isMs h' x f4 0 f14 f16 f18 (takeF m pool tape a len E r).2.1 kp was (takeF m pool tape a len E r).2.2 tape pln pap rwd rw ∧ Same (mBlk x) h h') := by
  obtain ⟨hM, k0, k1, k2, k3, k4, k5, k7⟩ := id hok
  have hB0 := hB
  have hTx : txOk 4 tape pool tape (len : Int) := ⟨Or.inl ⟨rfl, rfl, by omega⟩, by omega, hT⟩
  have hTa : ∀ q, InR (tape q) := fun q => by have := hT q; exact ⟨by omega, by omega⟩
  have hwo := wholeR_ok hq
  have r1 := hM 1
  dsimp only [mFs] at hB
  refine r_iload_n (pc := 82) dX11_take_82 rfl ?_
  refine rj_if_eq (pc := 83) (tgt := 93) dX11_take_83 (by decide) (by first | assumption | exact b01_r | exact bz_r | omega | (constructor <;> omega) | exact hM _ | exact hPo _ | exact hTa _ | exact hRo _) (fun c_83 => ?_) (fun c_83 => ?_)
  · try simp only [b01_0, bz_0, Classical.not_not] at c_83
    refine rj_bipush (pc := 93) dX11_take_93 (by decide +kernel) ?_
    refine r_aload_n (pc := 95) dX11_take_95 rfl (by first | rfl | exact isRefV_rf _) ?_
    refine rm_getf (pc := 96) dX11_take_96 fX11_71 (by assumption) rfl ?_
    refine rj_isub (pc := 99) dX11_take_99 ?_
    refine r_ireturn (pc := 100) .int dX11_take_100 rfl (by first | rfl | assumption) ?_
    first
    | (have z0 : r.1 = false := by simpa using c_83
       have z1 : wR len r = r := by unfold wR; rw [if_neg (by rw [z0]; decide)]
       have z3 : takeF m pool tape a len E r = (-100 - r.2.2.1, m, pool) := by unfold takeF; rw [z1, if_neg (by rw [z0]; decide)]
       rw [z3]
       exact ⟨rfl, hB0.isMs ⟨hq.2.2.2.2.1, hq.2.2.2.2.2.1⟩, Same.refl⟩)
    | (have z0 : r.1 = true := by simpa using c_83
       have z1 : wR len r = wholeR len r.2 := by unfold wR; rw [if_pos z0]
       have z2 : (wholeR len r.2).1 = false := by simpa using c_90
       have z3 : takeF m pool tape a len E r = (-100 - (wholeR len r.2).2.2.1, m, pool) := by unfold takeF; rw [z1, if_neg (by rw [z2]; decide)]
       rw [z3]
       exact ⟨rfl, hB_87.isMs ⟨hwo.2.2.2.2.1, hwo.2.2.2.2.2.1⟩, S_87⟩)
  · try simp only [b01_0, bz_0, Classical.not_not] at c_83
    refine r_aload_n (pc := 86) dX11_take_86 rfl (by first | rfl | exact isRefV_rf _) ?_
    refine r_callV0 (pc := 87) dX11_take_87 qX11_isWhole kX11_217 vX11_isWhole (by exact isM.gx (by assumption)) rfl rfl (Nat.le_of_ble_eq_true rfl) ((m_isWhole 0 hB0 hTx hq).deeper (by omega)) (fun v_87 h_87 q_87 => ?_)
    obtain ⟨rfl, hB_87, S_87⟩ := q_87
    refine rj_if_ne (pc := 90) (tgt := 101) dX11_take_90 (by decide) (by first | assumption | exact b01_r | exact bz_r | omega | (constructor <;> omega) | exact hM _ | exact hPo _ | exact hTa _ | exact hRo _) (fun c_90 => ?_) (fun c_90 => ?_)
    · try simp only [b01_0, bz_0, Classical.not_not] at c_90
      have z0 : r.1 = true := by simpa using c_83
      have zw : (wR len r).1 = true := by unfold wR; rw [if_pos z0]; simpa using c_90
      have rhb := hbL_r (m := m) (rc := tape) (fr := 0) (to := E) (m 1).toNat 0
      refine r_aload_n (pc := 101) dX11_take_101 rfl (by first | rfl | exact isRefV_rf _) ?_
      refine rm_getf (pc := 102) dX11_take_102 fX11_11 (by assumption) rfl ?_
      refine rj_iconst (pc := 105) dX11_take_105 ?_
      refine rj_iald (pc := 106) (j := 1) dX11_take_106 (by first | exact isM.g0 (by assumption) | exact isM.g3 (by assumption) | exact isM.g4 (by assumption) | exact isM.g8 (by assumption) | exact isM.g7 (by assumption) | exact isM.g6 (by assumption) | exact isM.g5 (by assumption) | exact isM.g1 (by assumption) | exact isM.g2 (by assumption)) (by first | assumption | exact b01_r | exact bz_r | omega | (constructor <;> omega) | exact hM _ | exact hPo _ | exact hTa _ | exact hRo _) (by first | assumption | exact b01_r | exact bz_r | omega | (constructor <;> omega) | exact hM _ | exact hPo _ | exact hTa _ | exact hRo _) (by first | assumption | exact b01_r | exact bz_r | omega | (constructor <;> omega) | exact hM _ | exact hPo _ | exact hTa _ | exact hRo _) (by omega) ?_
      refine rj_bipush (pc := 107) dX11_take_107 (by decide +kernel) ?_
      refine rj_icmp_ne (pc := 109) (tgt := 115) dX11_take_109 (by decide) (by first | assumption | exact b01_r | exact bz_r | omega | (constructor <;> omega) | exact hM _ | exact hPo _ | exact hTa _ | exact hRo _) (by first | assumption | exact b01_r | exact bz_r | omega | (constructor <;> omega) | exact hM _ | exact hPo _ | exact hTa _ | exact hRo _) (fun c_109 => ?_) (fun c_109 => ?_)
      · refine r_aload_n (pc := 115) dX11_take_115 rfl (by first | rfl | exact isRefV_rf _) ?_
        refine r_aload_n (pc := 116) dX11_take_116 rfl (by first | rfl | exact isRefV_rf _) ?_
        refine rm_getf (pc := 117) dX11_take_117 fX11_24 (by assumption) rfl ?_
        refine rj_iconst (pc := 120) dX11_take_120 ?_
        refine r_iload (pc := 121) dX11_take_121 rfl ?_
        refine r_callV3 (pc := 123) dX11_take_123 qX11_heldBy kX11_163 vX11_heldBy (by exact isM.gx (by assumption)) rfl rfl (Nat.le_of_ble_eq_true rfl) (by have y := m_heldBy (G := G) (l := l) 0 hB_87 hM (rs := 4) (rc := tape) (fr := 0) (to := E) (Or.inl ⟨rfl, rfl, by omega⟩) (by omega) hTa (N := (m 1).toNat) (by omega) (by omega) (fun t ht => k7 t (by omega)); exact y.deeper (by omega)) (fun v_123 h_123 q_123 => ?_)
        obtain ⟨rfl, rfl⟩ := q_123
        refine rj_if_lt (pc := 126) (tgt := 132) dX11_take_126 (by decide) (by first | assumption | exact b01_r | exact bz_r | omega | (constructor <;> omega) | exact hM _ | exact hPo _ | exact hTa _ | exact hRo _) (fun c_126 => ?_) (fun c_126 => ?_)
        · refine r_iload (pc := 132) dX11_take_132 rfl ?_
          refine r_iload_n (pc := 134) dX11_take_134 rfl ?_
          refine rj_icmp_ne (pc := 135) (tgt := 142) dX11_take_135 (by decide) (by first | assumption | exact b01_r | exact bz_r | omega | (constructor <;> omega) | exact hM _ | exact hPo _ | exact hTa _ | exact hRo _) (by first | assumption | exact b01_r | exact bz_r | omega | (constructor <;> omega) | exact hM _ | exact hPo _ | exact hTa _ | exact hRo _) (fun c_135 => ?_) (fun c_135 => ?_)
          · refine r_aload_n (pc := 142) dX11_take_142 rfl (by first | rfl | exact isRefV_rf _) ?_
            refine r_iload (pc := 143) dX11_take_143 rfl ?_
            refine rj_iconst (pc := 145) dX11_take_145 ?_
            refine rj_iadd (pc := 146) dX11_take_146 ?_
            refine r_iload_n (pc := 147) dX11_take_147 rfl ?_
            refine r_callV2 (pc := 148) dX11_take_148 qX11_pooled kX11_220 vX11_pooled (by exact isM.gx (by assumption)) rfl rfl (Nat.le_of_ble_eq_true rfl) (by have y := m_pooled (G := G) (l := l) 0 hB_87 (a := E + 1) (b := len) (p := (m 8).toNat) hTa (by omega) (by omega) (by omega) (by omega); rw [show ((E + 1 : Nat) : Int) = (E : Int) + 1 by omega] at y; exact y.deeper (by omega)) (fun v_148 h_148 q_148 => ?_)
            obtain ⟨rfl, hB_148, S_148⟩ := q_148
            refine r_istore (pc := 151) dX11_take_151 (Nat.le_of_ble_eq_true rfl) ?_
            dsimp only [lsSt, List.set, mLs, mEnt]
            refine r_aload_n (pc := 153) dX11_take_153 rfl (by first | rfl | exact isRefV_rf _) ?_
            refine r_iload_n (pc := 154) dX11_take_154 rfl ?_
            refine r_aload_n (pc := 155) dX11_take_155 rfl (by first | rfl | exact isRefV_rf _) ?_
            refine rm_getf (pc := 156) dX11_take_156 fX11_24 (by assumption) rfl ?_
            refine rj_iconst (pc := 159) dX11_take_159 ?_
            refine r_iload (pc := 160) dX11_take_160 rfl ?_
            refine r_iload (pc := 162) dX11_take_162 rfl ?_
            refine r_iload (pc := 164) dX11_take_164 rfl ?_
            refine r_iload_n (pc := 166) dX11_take_166 rfl ?_
            refine rj_icmp_ne (pc := 167) (tgt := 174) dX11_take_167 (by decide) (by first | assumption | exact b01_r | exact bz_r | omega | (constructor <;> omega) | exact hM _ | exact hPo _ | exact hTa _ | exact hRo _) (by first | assumption | exact b01_r | exact bz_r | omega | (constructor <;> omega) | exact hM _ | exact hPo _ | exact hTa _ | exact hRo _) (fun c_167 => ?_) (fun c_167 => ?_)
            · refine r_iload (pc := 174) dX11_take_174 rfl ?_
              refine r_iload_n (pc := 176) dX11_take_176 rfl ?_
              refine rj_iadd (pc := 177) dX11_take_177 ?_
              refine r_iload (pc := 178) dX11_take_178 rfl ?_
              refine rj_isub (pc := 180) dX11_take_180 ?_
              refine rj_iconst (pc := 181) dX11_take_181 ?_
              refine rj_isub (pc := 182) dX11_take_182 ?_
              refine r_callV6 (pc := 183) dX11_take_183 qX11_takes kX11_167 vX11_takes (by exact isM.gx (by assumption)) rfl rfl (Nat.le_of_ble_eq_true rfl) (by have y := m_takes (G := G) (l := l) 0 hB_148 (rs := 4) (rc := tape) (fr := 0) (to := E) (Or.inl ⟨rfl, rfl, by omega⟩) (by omega) (by omega) (N := (m 1).toNat) (by rw [updI_n (by decide)]; omega) (by omega) (o := a) (p := ((m 8).toNat : Int)) (e := (((m 8).toNat : Int) + (len : Int) - (E : Int) - 1)); exact y.deeper (by omega)) (fun v_183 h_183 q_183 => ?_)
              obtain ⟨rfl, hB_183, S_183⟩ := q_183
              refine r_ireturn (pc := 186) .int dX11_take_186 rfl (by first | rfl | assumption) ?_
              first
              | (have z3 : takeF m pool tape a len E r = (m 1, takesM m tape (m 1).toNat a 0 E 0 0, pool) := by unfold takeF; rw [if_pos zw, if_neg c_109, if_neg (by omega), if_pos (by omega)]
                 rw [z3]
                 exact ⟨by congr 3; omega, hB_183.isMs ⟨hwo.2.2.2.2.1, hwo.2.2.2.2.2.1⟩, S_87.trans S_183⟩)
              | (have z8 : ((m 8).toNat : Int) = m 8 := by omega
                 rw [z8] at hB_183
                 have z3 : takeF m pool tape a len E r = (m 1, takesM (updI m 8 (m 8 + (len - (E + 1) : Nat) + 1)) tape (m 1).toNat a 0 E (m 8) (m 8 + len - E - 1), pooledP pool tape (m 8).toNat (E + 1) len) := by unfold takeF; rw [if_pos zw, if_neg c_109, if_neg (by omega), if_neg (by omega)]
                 rw [z3]
                 exact ⟨by congr 3; omega, hB_183.isMs ⟨hwo.2.2.2.2.1, hwo.2.2.2.2.2.1⟩, (S_87.trans S_148).trans S_183⟩)
            · exfalso; omega
          · refine rj_iconst (pc := 138) dX11_take_138 ?_
            refine r_goto (pc := 139) (tgt := 151) dX11_take_139 (by decide) ?_
            refine r_istore (pc := 151) dX11_take_151 (Nat.le_of_ble_eq_true rfl) ?_
            dsimp only [lsSt, List.set, mLs, mEnt]
            refine r_aload_n (pc := 153) dX11_take_153 rfl (by first | rfl | exact isRefV_rf _) ?_
            refine r_iload_n (pc := 154) dX11_take_154 rfl ?_
            refine r_aload_n (pc := 155) dX11_take_155 rfl (by first | rfl | exact isRefV_rf _) ?_
            refine rm_getf (pc := 156) dX11_take_156 fX11_24 (by assumption) rfl ?_
            refine rj_iconst (pc := 159) dX11_take_159 ?_
            refine r_iload (pc := 160) dX11_take_160 rfl ?_
            refine r_iload (pc := 162) dX11_take_162 rfl ?_
            refine r_iload (pc := 164) dX11_take_164 rfl ?_
            refine r_iload_n (pc := 166) dX11_take_166 rfl ?_
            refine rj_icmp_ne (pc := 167) (tgt := 174) dX11_take_167 (by decide) (by first | assumption | exact b01_r | exact bz_r | omega | (constructor <;> omega) | exact hM _ | exact hPo _ | exact hTa _ | exact hRo _) (by first | assumption | exact b01_r | exact bz_r | omega | (constructor <;> omega) | exact hM _ | exact hPo _ | exact hTa _ | exact hRo _) (fun c_167 => ?_) (fun c_167 => ?_)
            · exfalso; omega
            · refine rj_iconst (pc := 170) dX11_take_170 ?_
              refine r_goto (pc := 171) (tgt := 183) dX11_take_171 (by decide) ?_
              refine r_callV6 (pc := 183) dX11_take_183 qX11_takes kX11_167 vX11_takes (by exact isM.gx (by assumption)) rfl rfl (Nat.le_of_ble_eq_true rfl) (by have y := m_takes (G := G) (l := l) 0 hB_87 (rs := 4) (rc := tape) (fr := 0) (to := E) (Or.inl ⟨rfl, rfl, by omega⟩) (by omega) (by omega) (N := (m 1).toNat) (by omega) (by omega) (o := a) (p := 0) (e := 0); exact y.deeper (by omega)) (fun v_183 h_183 q_183 => ?_)
              obtain ⟨rfl, hB_183, S_183⟩ := q_183
              refine r_ireturn (pc := 186) .int dX11_take_186 rfl (by first | rfl | assumption) ?_
              first
              | (have z3 : takeF m pool tape a len E r = (m 1, takesM m tape (m 1).toNat a 0 E 0 0, pool) := by unfold takeF; rw [if_pos zw, if_neg c_109, if_neg (by omega), if_pos (by omega)]
                 rw [z3]
                 exact ⟨by congr 3; omega, hB_183.isMs ⟨hwo.2.2.2.2.1, hwo.2.2.2.2.2.1⟩, S_87.trans S_183⟩)
              | (have z8 : ((m 8).toNat : Int) = m 8 := by omega
                 rw [z8] at hB_183
                 have z3 : takeF m pool tape a len E r = (m 1, takesM (updI m 8 (m 8 + (len - (E + 1) : Nat) + 1)) tape (m 1).toNat a 0 E (m 8) (m 8 + len - E - 1), pooledP pool tape (m 8).toNat (E + 1) len) := by unfold takeF; rw [if_pos zw, if_neg c_109, if_neg (by omega), if_neg (by omega)]
                 rw [z3]
                 exact ⟨by congr 3; omega, hB_183.isMs ⟨hwo.2.2.2.2.1, hwo.2.2.2.2.2.1⟩, (S_87.trans S_148).trans S_183⟩)
        · refine rj_bipush (pc := 129) dX11_take_129 (by decide +kernel) ?_
          refine r_ireturn (pc := 131) .int dX11_take_131 rfl (by first | rfl | assumption) ?_
          have z3 : takeF m pool tape a len E r = (-3, m, pool) := by unfold takeF; rw [if_pos zw, if_neg c_109, if_pos (by omega)]
          rw [z3]
          exact ⟨rfl, hB_87.isMs ⟨hwo.2.2.2.2.1, hwo.2.2.2.2.2.1⟩, S_87⟩
      · refine rj_bipush (pc := 112) dX11_take_112 (by decide +kernel) ?_
        refine r_ireturn (pc := 114) .int dX11_take_114 rfl (by first | rfl | assumption) ?_
        have z3 : takeF m pool tape a len E r = (-4, m, pool) := by unfold takeF; rw [if_pos zw, if_pos c_109]
        rw [z3]
        exact ⟨rfl, hB_87.isMs ⟨hwo.2.2.2.2.1, hwo.2.2.2.2.2.1⟩, S_87⟩
    · try simp only [b01_0, bz_0, Classical.not_not] at c_90
      refine rj_bipush (pc := 93) dX11_take_93 (by decide +kernel) ?_
      refine r_aload_n (pc := 95) dX11_take_95 rfl (by first | rfl | exact isRefV_rf _) ?_
      refine rm_getf (pc := 96) dX11_take_96 fX11_71 (by assumption) rfl ?_
      refine rj_isub (pc := 99) dX11_take_99 ?_
      refine r_ireturn (pc := 100) .int dX11_take_100 rfl (by first | rfl | assumption) ?_
      first
      | (have z0 : r.1 = false := by simpa using c_83
         have z1 : wR len r = r := by unfold wR; rw [if_neg (by rw [z0]; decide)]
         have z3 : takeF m pool tape a len E r = (-100 - r.2.2.1, m, pool) := by unfold takeF; rw [z1, if_neg (by rw [z0]; decide)]
         rw [z3]
         exact ⟨rfl, hB0.isMs ⟨hq.2.2.2.2.1, hq.2.2.2.2.2.1⟩, Same.refl⟩)
      | (have z0 : r.1 = true := by simpa using c_83
         have z1 : wR len r = wholeR len r.2 := by unfold wR; rw [if_pos z0]
         have z2 : (wholeR len r.2).1 = false := by simpa using c_90
         have z3 : takeF m pool tape a len E r = (-100 - (wholeR len r.2).2.2.1, m, pool) := by unfold takeF; rw [z1, if_neg (by rw [z2]; decide)]
         rw [z3]
         exact ⟨rfl, hB_87.isMs ⟨hwo.2.2.2.2.1, hwo.2.2.2.2.2.1⟩, S_87⟩)
end mg_75

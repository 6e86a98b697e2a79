/-! ===== a thing is typed and taken (by program) ===== -/
section NG
variable {G : mG} {l : Launch} {x n0 : Nat} {h : mH} {f4 : Int} {m kpm pool : Nat → Int} {ft : Nat → Int} {b : Nat} {tn kk s : Int} {qq : Int32} {sg : Int64} {a11 a12 a13 a14 a15 : Option Value} {Q : Option Value → mH → Prop}
set_option maxHeartbeats 4000000 in
set_option maxRecDepth 100000 in
theorem law_take (hG : G.2.map Prod.snd = mTy) (hn0 : n0 ≤ 500) (hI : RO x (x + 196) n0 f4 m kpm pool 0 ft h) (hj : JI m) (hs : 0 ≤ s ∧ s ≤ m 0 - 1) (hsg : sgt m = sg) (K : TLK G l x n0 b h tn kk s (m 1) qq sg Q) : RUN G l 2048 mLaw 122 [some (.ref b), some (.ref x), some (.int (J 1)), some (.int (J tn)), some (.int qq), some (.int (J kk)), some (.int (J s)), some (.int (J (m 1))), some (.long sg), none, some (.int (J 0)), a11, a12, a13, a14, a15] [] h Q := by
  obtain ⟨fs, ho⟩ := hI.gx
  obtain ⟨m0, m1, m2, m3, hh, hnc, hns, hsc⟩ := hI.b2
  refine bl_new (d := 2045) (pc := 122) hG dL_law_122 dL_law_125 dL_law_126 cL_25 kL_27 hI.lo (by simp [Value.category]) (fun h_122 a_122 B_122 => ?_)
  refine r_iload (pc := 129) dL_law_129 rfl ?_
  refine rj_bipush (pc := 131) dL_law_131 (by decide +kernel) ?_
  refine r_ishr (pc := 133) dL_law_133 ?_
  refine rj_bipush (pc := 134) dL_law_134 (by decide +kernel) ?_
  refine rj_andM (pc := 136) dL_law_136 (by constructor <;> decide) (fun e_136 he_136 => ?_)
  refine r_callS1 (pc := 137) dL_law_137 qL_name kL_69 sL_name (by simp [Value.category]) (jk_name 2041 hG B_122.lo he_136) (fun v_137 h_137 q_137 => ?_)
  obtain ⟨p_137, w_137, rfl, N_137, S_137⟩ := q_137
  refine bl_N (d := 2042) (pc := 140) hG dL_law_140 kL_30 B_122 S_137 N_137 (by simp only [List.length_append, List.length_cons, List.length_nil, nm] <;> omega) (by simp [Value.category]) (fun h_140 B_140 => ?_)
  refine r_iload (pc := 143) dL_law_143 rfl ?_
  refine rj_bipush (pc := 145) dL_law_145 (by decide +kernel) ?_
  refine r_ishr (pc := 147) dL_law_147 ?_
  refine rj_iconst (pc := 148) dL_law_148 ?_
  refine rj_andM (pc := 149) dL_law_149 (by constructor <;> decide) (fun e_149 he_149 => ?_)
  refine rj_if_ne (pc := 150) (tgt := 158) dL_law_150 (by decide) (by first | exact b01_r | exact bz_r | omega | (constructor <;> omega) | apply_assumption | (apply atF_r; assumption) | fail "no range") (fun c_150 => ?_) (fun c_150 => ?_)
  · try simp only [b01_0, bz_0, Classical.not_not] at c_150
    refine bl_new (d := 2045) (pc := 158) hG dL_law_158 dL_law_161 dL_law_162 cL_25 kL_27 B_140.lo (by simp [Value.category]) (fun h_158 a_158 B_158 => ?_)
    refine r_ldcS (pc := 165) (k := 11) dL_law_165 rfl (by decide) rfl ?_
    refine bl_S (d := 2042) (pc := 167) hG dL_law_167 kL_30 B_158 (con_of G (u := [61]) (by decide) (by decide +kernel)) (by simp only [List.length_append, List.length_cons, List.length_nil, nm] <;> omega) (by simp [Value.category]) (fun h_167 B_167 => ?_)
    refine r_iload (pc := 170) dL_law_170 rfl ?_
    refine rj_bipush (pc := 172) dL_law_172 (by decide +kernel) ?_
    refine r_ishr (pc := 174) dL_law_174 ?_
    refine r_callS1 (pc := 175) dL_law_175 qL_text kL_103 sL_text (by simp [Value.category]) (jk_text 2035 hG B_167.lo _) (fun v_175 h_175 q_175 => ?_)
    obtain ⟨p_175, w_175, t1, rfl, T_t1, N_175, S_175⟩ := q_175
    have l_t1 := TX_le T_t1
    refine bl_A (d := 2042) (pc := 178) hG dL_law_178 kL_30 B_167 S_175 N_175 (by simp only [List.length_append, List.length_cons, List.length_nil, nm] <;> omega) (by simp [Value.category]) (fun h_178 B_178 => ?_)
    refine r_ldcS (pc := 181) (k := 12) dL_law_181 rfl (by decide) rfl ?_
    refine bl_S (d := 2042) (pc := 183) hG dL_law_183 kL_30 B_178 (con_of G (u := [59]) (by decide) (by decide +kernel)) (by simp only [List.length_append, List.length_cons, List.length_nil, nm] <;> omega) (by simp [Value.category]) (fun h_183 B_183 => ?_)
    refine r_iload (pc := 186) dL_law_186 rfl ?_
    refine rj_bipush (pc := 188) dL_law_188 (by decide +kernel) ?_
    refine r_ishr (pc := 190) dL_law_190 ?_
    refine r_callS1 (pc := 191) dL_law_191 qL_text kL_103 sL_text (by simp [Value.category]) (jk_text 2035 hG B_183.lo _) (fun v_191 h_191 q_191 => ?_)
    obtain ⟨p_191, w_191, t2, rfl, T_t2, N_191, S_191⟩ := q_191
    have l_t2 := TX_le T_t2
    refine bl_A (d := 2042) (pc := 194) hG dL_law_194 kL_30 B_183 S_191 N_191 (by simp only [List.length_append, List.length_cons, List.length_nil, nm] <;> omega) (by simp [Value.category]) (fun h_194 B_194 => ?_)
    refine bl_end (d := 2042) (pc := 197) hG dL_law_197 kL_37 B_194 (by simp [Value.category]) (fun h_197 p_197 w_197 N_197 S_197 => ?_)
    refine bl_A (d := 2042) (pc := 200) hG dL_law_200 kL_30 B_140 S_197 (Or.inr N_197) (by simp only [List.length_append, List.length_cons, List.length_nil, nm] <;> omega) (by simp [Value.category]) (fun h_200 B_200 => ?_)
    refine bl_end (d := 2042) (pc := 203) hG dL_law_203 kL_37 B_200 (by simp [Value.category]) (fun h_203 p_203 w_203 N_203 S_203 => ?_)
    have I_203 := hI.news S_203
    have fr_203 := NEWS.fr hI S_203
    have hi_ := hI.hi
    obtain ⟨u, hu⟩ : ∃ u, u = nm e_136 ++ ([61] ++ t1 ++ [59] ++ t2) := ⟨_, rfl⟩
    have ul : u.length = 2 + (1 + t1.length + 1 + t2.length) := by rw [hu]; simp only [List.length_append, List.length_cons, List.length_nil, nm] <;> omega
    have ub : tyB u := by rw [hu]; exact tyB.app (.nm he_136) (tyB.app (tyB.app (tyB.app (.cons (by omega) .nil) (tyB.tx T_t1)) (.cons (by omega) .nil)) (tyB.tx T_t2))
    have N_u : isNew h h_203 p_203 w_203 u := by rw [hu]; have z := N_203; simp only [List.nil_append, List.append_nil] at z; exact z
    refine r_astore (pc := 206) dL_law_206 (Nat.le_of_ble_eq_true rfl) (by first | rfl | exact isRefV_rf _) ?_
    dsimp only [lsSt, List.set, mLs, mEnt]
    refine r_iload_n (pc := 208) dL_law_208 rfl ?_
    refine r_aload_n (pc := 209) dL_law_209 rfl (by first | rfl | exact isRefV_rf _) ?_
    refine r_aload (pc := 210) dL_law_210 rfl (by first | rfl | exact isRefV_rf _) ?_
    refine r_callS2 (pc := 212) dL_law_212 qL_types kL_108 sL_types (Nat.le_of_ble_eq_true rfl) ((jl_types hG (by omega) ⟨by have := N_u.2.1; omega, by have := N_u.2.2; omega⟩ ub (by omega) I_203 N_u.1).deeper (Nat.le_of_ble_eq_true rfl)) (fun v_212 h_212 q_212 => ?_)
    obtain ⟨rfl, f_212, I_212, c_212, F_212⟩ := q_212
    have tk := take_c he_136 T_t1 T_t2 hu c_212
    obtain ⟨fs_212, ho⟩ := I_212.gx
    refine rj_and1 (pc := 215) dL_law_215 ?_
    refine r_istore_n (pc := 216) dL_law_216 (Nat.le_of_ble_eq_true rfl) ?_
    dsimp only [lsSt, List.set, mLs, mEnt]
    refine r_aload_n (pc := 217) dL_law_217 rfl (by first | rfl | exact isRefV_rf _) ?_
    refine r_iload (pc := 218) dL_law_218 rfl ?_
    refine r_callV1 (pc := 220) dL_law_220 qX10_take kL_112 vX10_take ho rfl rfl (Nat.le_of_ble_eq_true rfl) ((oc_take hG (by omega) I_212 (a := s) (by constructor <;> omega)).deeper (Nat.le_of_ble_eq_true rfl)) (fun v_220 h_220 q_220 => ?_)
    obtain ⟨z_220, g_220, m_220, kp_220, po_220, zt_220, ft_220, rfl, R_220, I_220, F_220, s_220, t_220, u_220⟩ := q_220
    rcases R_220 with ⟨no, ze, c1, c2, c3, c4, c5, c6⟩ | ⟨op, ⟨c1, c3, c5, c6⟩, ⟨zz, c2, c4⟩ | R2 | ⟨N_, q_, E_, N0, qe, N9, ze, eE, E7, isl, hb, v_, fr_, to_, me⟩⟩
    · replace c1 := c1.symm; subst c1; replace c2 := c2.symm; subst c2; replace c3 := c3.symm; subst c3; replace c4 := c4.symm; subst c4; replace c5 := c5.symm; subst c5; replace c6 := c6.symm; subst c6
      have zr : z_220 = -3 := by rw [ze, if_pos ⟨by omega, by omega⟩]
      obtain ⟨fs_220, ho⟩ := I_220.gx
      refine r_istore (pc := 223) dL_law_223 (Nat.le_of_ble_eq_true rfl) ?_
      dsimp only [lsSt, List.set, mLs, mEnt]
      refine r_aload_n (pc := 225) dL_law_225 rfl (by first | rfl | exact isRefV_rf _) ?_
      refine r_callV0 (pc := 226) dL_law_226 qX10_clear kL_115 vX10_clear ho rfl rfl (Nat.le_of_ble_eq_true rfl) ((oc_clear hG (by omega) I_220).deeper (Nat.le_of_ble_eq_true rfl)) (fun v_226 h_226 q_226 => ?_)
      obtain ⟨z_226, g_226, m_226, kp_226, po_226, zt_226, ft_226, rfl, R_226, I_226, F_226, s_226, t_226, u_226⟩ := q_226
      obtain ⟨e1, e2, e3, e4, e5, e6, e7⟩ := R_226
      subst e1
      replace e2 := e2.symm; subst e2; replace e3 := e3.symm; subst e3; replace e4 := e4.symm; subst e4; replace e5 := e5.symm; subst e5; replace e6 := e6.symm; subst e6; replace e7 := e7.symm; subst e7
      obtain ⟨fs_226, ho⟩ := I_226.gx
      refine r_istore (pc := 229) dL_law_229 (Nat.le_of_ble_eq_true rfl) ?_
      dsimp only [lsSt, List.set, mLs, mEnt]
      refine r_iload_n (pc := 231) dL_law_231 rfl ?_
      refine r_iload (pc := 232) dL_law_232 rfl ?_
      refine rj_bipush (pc := 234) dL_law_234 (by decide +kernel) ?_
      refine rj_icmp_eq (pc := 236) (tgt := 270) dL_law_236 (by decide) (by first | exact b01_r | exact bz_r | omega | (constructor <;> omega) | apply_assumption | (apply atF_r; assumption) | fail "no range") (by first | exact b01_r | exact bz_r | omega | (constructor <;> omega) | apply_assumption | (apply atF_r; assumption) | fail "no range") (fun c_236 => ?_) (fun c_236 => ?_)
      · refine rj_iconst (pc := 270) dL_law_270 ?_
        refine r_goto (pc := 271) (tgt := 275) dL_law_271 (by decide) ?_
        refine rj_and1 (pc := 275) dL_law_275 ?_
        refine r_istore_n (pc := 276) dL_law_276 (Nat.le_of_ble_eq_true rfl) ?_
        dsimp only [lsSt, List.set, mLs, mEnt]
        refine r_goto (pc := 277) (tgt := 1216) dL_law_277 (by decide) ?_
        exact K _ _ _ _ _ _ _ z_220 _ _ _ _ _ I_226 hj (by omega) ⟨⟨(s_226.1.trans s_220.1).trans (F_212.1.trans fr_203.1.1), fun q hq => ((s_226.2 q hq).trans (s_220.2 q hq)).trans ((F_212.2.2.2 q (by unfold kBlk; omega)).trans (fr_203.1.2 q hq))⟩, by have := F_212.2.1; omega, by have := F_212.2.2.1; omega⟩ (by constructor <;> omega) (Or.inr (Or.inr hsg))
      · refine r_iload (pc := 239) dL_law_239 rfl ?_
        refine rj_bipush (pc := 241) dL_law_241 (by decide +kernel) ?_
        refine rj_icmp_eq (pc := 243) (tgt := 270) dL_law_243 (by decide) (by first | exact b01_r | exact bz_r | omega | (constructor <;> omega) | apply_assumption | (apply atF_r; assumption) | fail "no range") (by first | exact b01_r | exact bz_r | omega | (constructor <;> omega) | apply_assumption | (apply atF_r; assumption) | fail "no range") (fun c_243 => ?_) (fun c_243 => ?_)
        · refine rj_iconst (pc := 270) dL_law_270 ?_
          refine r_goto (pc := 271) (tgt := 275) dL_law_271 (by decide) ?_
          refine rj_and1 (pc := 275) dL_law_275 ?_
          refine r_istore_n (pc := 276) dL_law_276 (Nat.le_of_ble_eq_true rfl) ?_
          dsimp only [lsSt, List.set, mLs, mEnt]
          refine r_goto (pc := 277) (tgt := 1216) dL_law_277 (by decide) ?_
          exact K _ _ _ _ _ _ _ z_220 _ _ _ _ _ I_226 hj (by omega) ⟨⟨(s_226.1.trans s_220.1).trans (F_212.1.trans fr_203.1.1), fun q hq => ((s_226.2 q hq).trans (s_220.2 q hq)).trans ((F_212.2.2.2 q (by unfold kBlk; omega)).trans (fr_203.1.2 q hq))⟩, by have := F_212.2.1; omega, by have := F_212.2.2.1; omega⟩ (by constructor <;> omega) (Or.inr (Or.inr hsg))
        · exfalso; first | omega | contradiction | (simp at *; done)
    · replace c1 := c1.symm; subst c1; replace c2 := c2.symm; subst c2; replace c3 := c3.symm; subst c3; replace c4 := c4.symm; subst c4; replace c5 := c5.symm; subst c5; replace c6 := c6.symm; subst c6
      obtain ⟨fs_220, ho⟩ := I_220.gx
      refine r_istore (pc := 223) dL_law_223 (Nat.le_of_ble_eq_true rfl) ?_
      dsimp only [lsSt, List.set, mLs, mEnt]
      refine r_aload_n (pc := 225) dL_law_225 rfl (by first | rfl | exact isRefV_rf _) ?_
      refine r_callV0 (pc := 226) dL_law_226 qX10_clear kL_115 vX10_clear ho rfl rfl (Nat.le_of_ble_eq_true rfl) ((oc_clear hG (by omega) I_220).deeper (Nat.le_of_ble_eq_true rfl)) (fun v_226 h_226 q_226 => ?_)
      obtain ⟨z_226, g_226, m_226, kp_226, po_226, zt_226, ft_226, rfl, R_226, I_226, F_226, s_226, t_226, u_226⟩ := q_226
      obtain ⟨e1, e2, e3, e4, e5, e6, e7⟩ := R_226
      subst e1
      replace e2 := e2.symm; subst e2; replace e3 := e3.symm; subst e3; replace e4 := e4.symm; subst e4; replace e5 := e5.symm; subst e5; replace e6 := e6.symm; subst e6; replace e7 := e7.symm; subst e7
      obtain ⟨fs_226, ho⟩ := I_226.gx
      refine r_istore (pc := 229) dL_law_229 (Nat.le_of_ble_eq_true rfl) ?_
      dsimp only [lsSt, List.set, mLs, mEnt]
      refine r_iload_n (pc := 231) dL_law_231 rfl ?_
      refine r_iload (pc := 232) dL_law_232 rfl ?_
      refine rj_bipush (pc := 234) dL_law_234 (by decide +kernel) ?_
      refine rj_icmp_eq (pc := 236) (tgt := 270) dL_law_236 (by decide) (by first | exact b01_r | exact bz_r | omega | (constructor <;> omega) | apply_assumption | (apply atF_r; assumption) | fail "no range") (by first | exact b01_r | exact bz_r | omega | (constructor <;> omega) | apply_assumption | (apply atF_r; assumption) | fail "no range") (fun c_236 => ?_) (fun c_236 => ?_)
      · refine rj_iconst (pc := 270) dL_law_270 ?_
        refine r_goto (pc := 271) (tgt := 275) dL_law_271 (by decide) ?_
        refine rj_and1 (pc := 275) dL_law_275 ?_
        refine r_istore_n (pc := 276) dL_law_276 (Nat.le_of_ble_eq_true rfl) ?_
        dsimp only [lsSt, List.set, mLs, mEnt]
        refine r_goto (pc := 277) (tgt := 1216) dL_law_277 (by decide) ?_
        exact K _ _ _ _ _ _ _ z_220 _ _ _ _ _ I_226 hj (by omega) ⟨⟨(s_226.1.trans s_220.1).trans (F_212.1.trans fr_203.1.1), fun q hq => ((s_226.2 q hq).trans (s_220.2 q hq)).trans ((F_212.2.2.2 q (by unfold kBlk; omega)).trans (fr_203.1.2 q hq))⟩, by have := F_212.2.1; omega, by have := F_212.2.2.1; omega⟩ (by constructor <;> omega) (Or.inr (Or.inr hsg))
      · refine r_iload (pc := 239) dL_law_239 rfl ?_
        refine rj_bipush (pc := 241) dL_law_241 (by decide +kernel) ?_
        refine rj_icmp_eq (pc := 243) (tgt := 270) dL_law_243 (by decide) (by first | exact b01_r | exact bz_r | omega | (constructor <;> omega) | apply_assumption | (apply atF_r; assumption) | fail "no range") (by first | exact b01_r | exact bz_r | omega | (constructor <;> omega) | apply_assumption | (apply atF_r; assumption) | fail "no range") (fun c_243 => ?_) (fun c_243 => ?_)
        · refine rj_iconst (pc := 270) dL_law_270 ?_
          refine r_goto (pc := 271) (tgt := 275) dL_law_271 (by decide) ?_
          refine rj_and1 (pc := 275) dL_law_275 ?_
          refine r_istore_n (pc := 276) dL_law_276 (Nat.le_of_ble_eq_true rfl) ?_
          dsimp only [lsSt, List.set, mLs, mEnt]
          refine r_goto (pc := 277) (tgt := 1216) dL_law_277 (by decide) ?_
          exact K _ _ _ _ _ _ _ z_220 _ _ _ _ _ I_226 hj (by omega) ⟨⟨(s_226.1.trans s_220.1).trans (F_212.1.trans fr_203.1.1), fun q hq => ((s_226.2 q hq).trans (s_220.2 q hq)).trans ((F_212.2.2.2 q (by unfold kBlk; omega)).trans (fr_203.1.2 q hq))⟩, by have := F_212.2.1; omega, by have := F_212.2.2.1; omega⟩ (by constructor <;> omega) (Or.inr (Or.inr hsg))
        · exfalso; first | omega | contradiction | (simp at *; done)
    · rw [tk] at R2; cases R2
    · replace c1 := c1.symm; subst c1; replace c3 := c3.symm; subst c3; replace c5 := c5.symm; subst c5; replace c6 := c6.symm; subst c6
      have JN : JI m_220 := by
        rw [me]
        exact J_taken hj N0 N9 E7.2 (by rw [← qe]; exact op) hb
      have t1 : thgV m_220 z_220 1 = s := by
        have w1 : m_220 1 = N_ + 1 := by rw [me, takesM_8 (fr := 0) (to := E_) (by omega) 1 (by omega), takesM_1]
        have w2 : m_220 (259 + 14 * N_) = q_ := by rw [me, takesM_8 (fr := 0) (to := E_) (by omega) (259 + 14 * N_) (by omega), takesM_ow]
        unfold thgV
        rw [if_pos ⟨by omega, by omega⟩, if_neg (by decide), if_pos rfl, ze, show ((N_ : Int)).toNat = N_ by omega, w2, qe]
      obtain ⟨fs_220, ho⟩ := I_220.gx
      refine r_istore (pc := 223) dL_law_223 (Nat.le_of_ble_eq_true rfl) ?_
      dsimp only [lsSt, List.set, mLs, mEnt]
      refine r_aload_n (pc := 225) dL_law_225 rfl (by first | rfl | exact isRefV_rf _) ?_
      refine r_callV0 (pc := 226) dL_law_226 qX10_clear kL_115 vX10_clear ho rfl rfl (Nat.le_of_ble_eq_true rfl) ((oc_clear hG (by omega) I_220).deeper (Nat.le_of_ble_eq_true rfl)) (fun v_226 h_226 q_226 => ?_)
      obtain ⟨z_226, g_226, m_226, kp_226, po_226, zt_226, ft_226, rfl, R_226, I_226, F_226, s_226, t_226, u_226⟩ := q_226
      obtain ⟨e1, e2, e3, e4, e5, e6, e7⟩ := R_226
      subst e1
      replace e2 := e2.symm; subst e2; replace e3 := e3.symm; subst e3; replace e4 := e4.symm; subst e4; replace e5 := e5.symm; subst e5; replace e6 := e6.symm; subst e6; replace e7 := e7.symm; subst e7
      obtain ⟨fs_226, ho⟩ := I_226.gx
      refine r_istore (pc := 229) dL_law_229 (Nat.le_of_ble_eq_true rfl) ?_
      dsimp only [lsSt, List.set, mLs, mEnt]
      refine r_iload_n (pc := 231) dL_law_231 rfl ?_
      refine r_iload (pc := 232) dL_law_232 rfl ?_
      refine rj_bipush (pc := 234) dL_law_234 (by decide +kernel) ?_
      refine rj_icmp_eq (pc := 236) (tgt := 270) dL_law_236 (by decide) (by first | exact b01_r | exact bz_r | omega | (constructor <;> omega) | apply_assumption | (apply atF_r; assumption) | fail "no range") (by first | exact b01_r | exact bz_r | omega | (constructor <;> omega) | apply_assumption | (apply atF_r; assumption) | fail "no range") (fun c_236 => ?_) (fun c_236 => ?_)
      · exfalso; first | omega | contradiction | (simp at *; done)
      · refine r_iload (pc := 239) dL_law_239 rfl ?_
        refine rj_bipush (pc := 241) dL_law_241 (by decide +kernel) ?_
        refine rj_icmp_eq (pc := 243) (tgt := 270) dL_law_243 (by decide) (by first | exact b01_r | exact bz_r | omega | (constructor <;> omega) | apply_assumption | (apply atF_r; assumption) | fail "no range") (by first | exact b01_r | exact bz_r | omega | (constructor <;> omega) | apply_assumption | (apply atF_r; assumption) | fail "no range") (fun c_243 => ?_) (fun c_243 => ?_)
        · exfalso; first | omega | contradiction | (simp at *; done)
        · refine r_iload (pc := 246) dL_law_246 rfl ?_
          refine r_iload (pc := 248) dL_law_248 rfl ?_
          refine rj_icmp_ne (pc := 250) (tgt := 274) dL_law_250 (by decide) (by first | exact b01_r | exact bz_r | omega | (constructor <;> omega) | apply_assumption | (apply atF_r; assumption) | fail "no range") (by first | exact b01_r | exact bz_r | omega | (constructor <;> omega) | apply_assumption | (apply atF_r; assumption) | fail "no range") (fun c_250 => ?_) (fun c_250 => ?_)
          · exfalso; first | omega | contradiction | (simp at *; done)
          · refine r_aload_n (pc := 253) dL_law_253 rfl (by first | rfl | exact isRefV_rf _) ?_
            refine r_iload (pc := 254) dL_law_254 rfl ?_
            refine rj_iconst (pc := 256) dL_law_256 ?_
            refine r_callV2 (pc := 257) dL_law_257 qX10_thing kL_53 vX10_thing ho rfl rfl (Nat.le_of_ble_eq_true rfl) ((oa_thing I_226 (a := z_220) (by constructor <;> omega) (i := 1) (by omega)).deeper (Nat.le_of_ble_eq_true rfl)) (fun v_257 h_257 q_257 => ?_)
            obtain ⟨rfl, e_h⟩ := q_257; replace e_h := e_h.symm; subst e_h
            rw [t1]
            refine r_iload (pc := 260) dL_law_260 rfl ?_
            refine rj_icmp_ne (pc := 262) (tgt := 274) dL_law_262 (by decide) (by first | exact b01_r | exact bz_r | omega | (constructor <;> omega) | apply_assumption | (apply atF_r; assumption) | fail "no range") (by first | exact b01_r | exact bz_r | omega | (constructor <;> omega) | apply_assumption | (apply atF_r; assumption) | fail "no range") (fun c_262 => ?_) (fun c_262 => ?_)
            · exfalso; first | omega | contradiction | (simp at *; done)
            · refine r_iload (pc := 265) dL_law_265 rfl ?_
              refine rj_if_ne (pc := 267) (tgt := 274) dL_law_267 (by decide) (by first | exact b01_r | exact bz_r | omega | (constructor <;> omega) | apply_assumption | (apply atF_r; assumption) | fail "no range") (fun c_267 => ?_) (fun c_267 => ?_)
              · try simp only [b01_0, bz_0, Classical.not_not] at c_267
                exfalso; first | omega | contradiction | (simp at *; done)
              · try simp only [b01_0, bz_0, Classical.not_not] at c_267
                refine rj_iconst (pc := 270) dL_law_270 ?_
                refine r_goto (pc := 271) (tgt := 275) dL_law_271 (by decide) ?_
                refine rj_and1 (pc := 275) dL_law_275 ?_
                refine r_istore_n (pc := 276) dL_law_276 (Nat.le_of_ble_eq_true rfl) ?_
                dsimp only [lsSt, List.set, mLs, mEnt]
                refine r_goto (pc := 277) (tgt := 1216) dL_law_277 (by decide) ?_
                exact K _ _ _ _ _ _ _ z_220 _ _ _ _ _ I_226 JN (by omega) ⟨⟨(s_226.1.trans s_220.1).trans (F_212.1.trans fr_203.1.1), fun q hq => ((s_226.2 q hq).trans (s_220.2 q hq)).trans ((F_212.2.2.2 q (by unfold kBlk; omega)).trans (fr_203.1.2 q hq))⟩, by have := F_212.2.1; omega, by have := F_212.2.2.1; omega⟩ (by constructor <;> omega) (Or.inl (by omega))
  · try simp only [b01_0, bz_0, Classical.not_not] at c_150
    refine r_ldcS (pc := 153) (k := 0) dL_law_153 rfl (by decide) rfl ?_
    refine r_goto (pc := 155) (tgt := 200) dL_law_155 (by decide) ?_
    refine bl_S (d := 2042) (pc := 200) hG dL_law_200 kL_30 B_140 (con_of G (u := []) (by decide) (by decide +kernel)) (by simp only [List.length_append, List.length_cons, List.length_nil, nm] <;> omega) (by simp [Value.category]) (fun h_200 B_200 => ?_)
    refine bl_end (d := 2042) (pc := 203) hG dL_law_203 kL_37 B_200 (by simp [Value.category]) (fun h_203 p_203 w_203 N_203 S_203 => ?_)
    have I_203 := hI.news S_203
    have fr_203 := NEWS.fr hI S_203
    have hi_ := hI.hi
    obtain ⟨u, hu⟩ : ∃ u, u = nm e_136 := ⟨_, rfl⟩
    have ul : u.length = 2 := by rw [hu]; rfl
    have ub : tyB u := by rw [hu]; exact .nm he_136
    have N_u : isNew h h_203 p_203 w_203 u := by rw [hu]; have z := N_203; simp only [List.nil_append, List.append_nil] at z; exact z
    refine r_astore (pc := 206) dL_law_206 (Nat.le_of_ble_eq_true rfl) (by first | rfl | exact isRefV_rf _) ?_
    dsimp only [lsSt, List.set, mLs, mEnt]
    refine r_iload_n (pc := 208) dL_law_208 rfl ?_
    refine r_aload_n (pc := 209) dL_law_209 rfl (by first | rfl | exact isRefV_rf _) ?_
    refine r_aload (pc := 210) dL_law_210 rfl (by first | rfl | exact isRefV_rf _) ?_
    refine r_callS2 (pc := 212) dL_law_212 qL_types kL_108 sL_types (Nat.le_of_ble_eq_true rfl) ((jl_types hG (by omega) ⟨by have := N_u.2.1; omega, by have := N_u.2.2; omega⟩ ub (by omega) I_203 N_u.1).deeper (Nat.le_of_ble_eq_true rfl)) (fun v_212 h_212 q_212 => ?_)
    obtain ⟨rfl, f_212, I_212, c_212, F_212⟩ := q_212
    have tk := take_n he_136 hu c_212
    obtain ⟨fs_212, ho⟩ := I_212.gx
    refine rj_and1 (pc := 215) dL_law_215 ?_
    refine r_istore_n (pc := 216) dL_law_216 (Nat.le_of_ble_eq_true rfl) ?_
    dsimp only [lsSt, List.set, mLs, mEnt]
    refine r_aload_n (pc := 217) dL_law_217 rfl (by first | rfl | exact isRefV_rf _) ?_
    refine r_iload (pc := 218) dL_law_218 rfl ?_
    refine r_callV1 (pc := 220) dL_law_220 qX10_take kL_112 vX10_take ho rfl rfl (Nat.le_of_ble_eq_true rfl) ((oc_take hG (by omega) I_212 (a := s) (by constructor <;> omega)).deeper (Nat.le_of_ble_eq_true rfl)) (fun v_220 h_220 q_220 => ?_)
    obtain ⟨z_220, g_220, m_220, kp_220, po_220, zt_220, ft_220, rfl, R_220, I_220, F_220, s_220, t_220, u_220⟩ := q_220
    rcases R_220 with ⟨no, ze, c1, c2, c3, c4, c5, c6⟩ | ⟨op, ⟨c1, c3, c5, c6⟩, ⟨zz, c2, c4⟩ | R2 | ⟨N_, q_, E_, N0, qe, N9, ze, eE, E7, isl, hb, v_, fr_, to_, me⟩⟩
    · replace c1 := c1.symm; subst c1; replace c2 := c2.symm; subst c2; replace c3 := c3.symm; subst c3; replace c4 := c4.symm; subst c4; replace c5 := c5.symm; subst c5; replace c6 := c6.symm; subst c6
      have zr : z_220 = -3 := by rw [ze, if_pos ⟨by omega, by omega⟩]
      obtain ⟨fs_220, ho⟩ := I_220.gx
      refine r_istore (pc := 223) dL_law_223 (Nat.le_of_ble_eq_true rfl) ?_
      dsimp only [lsSt, List.set, mLs, mEnt]
      refine r_aload_n (pc := 225) dL_law_225 rfl (by first | rfl | exact isRefV_rf _) ?_
      refine r_callV0 (pc := 226) dL_law_226 qX10_clear kL_115 vX10_clear ho rfl rfl (Nat.le_of_ble_eq_true rfl) ((oc_clear hG (by omega) I_220).deeper (Nat.le_of_ble_eq_true rfl)) (fun v_226 h_226 q_226 => ?_)
      obtain ⟨z_226, g_226, m_226, kp_226, po_226, zt_226, ft_226, rfl, R_226, I_226, F_226, s_226, t_226, u_226⟩ := q_226
      obtain ⟨e1, e2, e3, e4, e5, e6, e7⟩ := R_226
      subst e1
      replace e2 := e2.symm; subst e2; replace e3 := e3.symm; subst e3; replace e4 := e4.symm; subst e4; replace e5 := e5.symm; subst e5; replace e6 := e6.symm; subst e6; replace e7 := e7.symm; subst e7
      obtain ⟨fs_226, ho⟩ := I_226.gx
      refine r_istore (pc := 229) dL_law_229 (Nat.le_of_ble_eq_true rfl) ?_
      dsimp only [lsSt, List.set, mLs, mEnt]
      refine r_iload_n (pc := 231) dL_law_231 rfl ?_
      refine r_iload (pc := 232) dL_law_232 rfl ?_
      refine rj_bipush (pc := 234) dL_law_234 (by decide +kernel) ?_
      refine rj_icmp_eq (pc := 236) (tgt := 270) dL_law_236 (by decide) (by first | exact b01_r | exact bz_r | omega | (constructor <;> omega) | apply_assumption | (apply atF_r; assumption) | fail "no range") (by first | exact b01_r | exact bz_r | omega | (constructor <;> omega) | apply_assumption | (apply atF_r; assumption) | fail "no range") (fun c_236 => ?_) (fun c_236 => ?_)
      · refine rj_iconst (pc := 270) dL_law_270 ?_
        refine r_goto (pc := 271) (tgt := 275) dL_law_271 (by decide) ?_
        refine rj_and1 (pc := 275) dL_law_275 ?_
        refine r_istore_n (pc := 276) dL_law_276 (Nat.le_of_ble_eq_true rfl) ?_
        dsimp only [lsSt, List.set, mLs, mEnt]
        refine r_goto (pc := 277) (tgt := 1216) dL_law_277 (by decide) ?_
        exact K _ _ _ _ _ _ _ z_220 _ _ _ _ _ I_226 hj (by omega) ⟨⟨(s_226.1.trans s_220.1).trans (F_212.1.trans fr_203.1.1), fun q hq => ((s_226.2 q hq).trans (s_220.2 q hq)).trans ((F_212.2.2.2 q (by unfold kBlk; omega)).trans (fr_203.1.2 q hq))⟩, by have := F_212.2.1; omega, by have := F_212.2.2.1; omega⟩ (by constructor <;> omega) (Or.inr (Or.inr hsg))
      · refine r_iload (pc := 239) dL_law_239 rfl ?_
        refine rj_bipush (pc := 241) dL_law_241 (by decide +kernel) ?_
        refine rj_icmp_eq (pc := 243) (tgt := 270) dL_law_243 (by decide) (by first | exact b01_r | exact bz_r | omega | (constructor <;> omega) | apply_assumption | (apply atF_r; assumption) | fail "no range") (by first | exact b01_r | exact bz_r | omega | (constructor <;> omega) | apply_assumption | (apply atF_r; assumption) | fail "no range") (fun c_243 => ?_) (fun c_243 => ?_)
        · refine rj_iconst (pc := 270) dL_law_270 ?_
          refine r_goto (pc := 271) (tgt := 275) dL_law_271 (by decide) ?_
          refine rj_and1 (pc := 275) dL_law_275 ?_
          refine r_istore_n (pc := 276) dL_law_276 (Nat.le_of_ble_eq_true rfl) ?_
          dsimp only [lsSt, List.set, mLs, mEnt]
          refine r_goto (pc := 277) (tgt := 1216) dL_law_277 (by decide) ?_
          exact K _ _ _ _ _ _ _ z_220 _ _ _ _ _ I_226 hj (by omega) ⟨⟨(s_226.1.trans s_220.1).trans (F_212.1.trans fr_203.1.1), fun q hq => ((s_226.2 q hq).trans (s_220.2 q hq)).trans ((F_212.2.2.2 q (by unfold kBlk; omega)).trans (fr_203.1.2 q hq))⟩, by have := F_212.2.1; omega, by have := F_212.2.2.1; omega⟩ (by constructor <;> omega) (Or.inr (Or.inr hsg))
        · exfalso; first | omega | contradiction | (simp at *; done)
    · replace c1 := c1.symm; subst c1; replace c2 := c2.symm; subst c2; replace c3 := c3.symm; subst c3; replace c4 := c4.symm; subst c4; replace c5 := c5.symm; subst c5; replace c6 := c6.symm; subst c6
      obtain ⟨fs_220, ho⟩ := I_220.gx
      refine r_istore (pc := 223) dL_law_223 (Nat.le_of_ble_eq_true rfl) ?_
      dsimp only [lsSt, List.set, mLs, mEnt]
      refine r_aload_n (pc := 225) dL_law_225 rfl (by first | rfl | exact isRefV_rf _) ?_
      refine r_callV0 (pc := 226) dL_law_226 qX10_clear kL_115 vX10_clear ho rfl rfl (Nat.le_of_ble_eq_true rfl) ((oc_clear hG (by omega) I_220).deeper (Nat.le_of_ble_eq_true rfl)) (fun v_226 h_226 q_226 => ?_)
      obtain ⟨z_226, g_226, m_226, kp_226, po_226, zt_226, ft_226, rfl, R_226, I_226, F_226, s_226, t_226, u_226⟩ := q_226
      obtain ⟨e1, e2, e3, e4, e5, e6, e7⟩ := R_226
      subst e1
      replace e2 := e2.symm; subst e2; replace e3 := e3.symm; subst e3; replace e4 := e4.symm; subst e4; replace e5 := e5.symm; subst e5; replace e6 := e6.symm; subst e6; replace e7 := e7.symm; subst e7
      obtain ⟨fs_226, ho⟩ := I_226.gx
      refine r_istore (pc := 229) dL_law_229 (Nat.le_of_ble_eq_true rfl) ?_
      dsimp only [lsSt, List.set, mLs, mEnt]
      refine r_iload_n (pc := 231) dL_law_231 rfl ?_
      refine r_iload (pc := 232) dL_law_232 rfl ?_
      refine rj_bipush (pc := 234) dL_law_234 (by decide +kernel) ?_
      refine rj_icmp_eq (pc := 236) (tgt := 270) dL_law_236 (by decide) (by first | exact b01_r | exact bz_r | omega | (constructor <;> omega) | apply_assumption | (apply atF_r; assumption) | fail "no range") (by first | exact b01_r | exact bz_r | omega | (constructor <;> omega) | apply_assumption | (apply atF_r; assumption) | fail "no range") (fun c_236 => ?_) (fun c_236 => ?_)
      · refine rj_iconst (pc := 270) dL_law_270 ?_
        refine r_goto (pc := 271) (tgt := 275) dL_law_271 (by decide) ?_
        refine rj_and1 (pc := 275) dL_law_275 ?_
        refine r_istore_n (pc := 276) dL_law_276 (Nat.le_of_ble_eq_true rfl) ?_
        dsimp only [lsSt, List.set, mLs, mEnt]
        refine r_goto (pc := 277) (tgt := 1216) dL_law_277 (by decide) ?_
        exact K _ _ _ _ _ _ _ z_220 _ _ _ _ _ I_226 hj (by omega) ⟨⟨(s_226.1.trans s_220.1).trans (F_212.1.trans fr_203.1.1), fun q hq => ((s_226.2 q hq).trans (s_220.2 q hq)).trans ((F_212.2.2.2 q (by unfold kBlk; omega)).trans (fr_203.1.2 q hq))⟩, by have := F_212.2.1; omega, by have := F_212.2.2.1; omega⟩ (by constructor <;> omega) (Or.inr (Or.inr hsg))
      · refine r_iload (pc := 239) dL_law_239 rfl ?_
        refine rj_bipush (pc := 241) dL_law_241 (by decide +kernel) ?_
        refine rj_icmp_eq (pc := 243) (tgt := 270) dL_law_243 (by decide) (by first | exact b01_r | exact bz_r | omega | (constructor <;> omega) | apply_assumption | (apply atF_r; assumption) | fail "no range") (by first | exact b01_r | exact bz_r | omega | (constructor <;> omega) | apply_assumption | (apply atF_r; assumption) | fail "no range") (fun c_243 => ?_) (fun c_243 => ?_)
        · refine rj_iconst (pc := 270) dL_law_270 ?_
          refine r_goto (pc := 271) (tgt := 275) dL_law_271 (by decide) ?_
          refine rj_and1 (pc := 275) dL_law_275 ?_
          refine r_istore_n (pc := 276) dL_law_276 (Nat.le_of_ble_eq_true rfl) ?_
          dsimp only [lsSt, List.set, mLs, mEnt]
          refine r_goto (pc := 277) (tgt := 1216) dL_law_277 (by decide) ?_
          exact K _ _ _ _ _ _ _ z_220 _ _ _ _ _ I_226 hj (by omega) ⟨⟨(s_226.1.trans s_220.1).trans (F_212.1.trans fr_203.1.1), fun q hq => ((s_226.2 q hq).trans (s_220.2 q hq)).trans ((F_212.2.2.2 q (by unfold kBlk; omega)).trans (fr_203.1.2 q hq))⟩, by have := F_212.2.1; omega, by have := F_212.2.2.1; omega⟩ (by constructor <;> omega) (Or.inr (Or.inr hsg))
        · exfalso; first | omega | contradiction | (simp at *; done)
    · rw [tk] at R2; cases R2
    · replace c1 := c1.symm; subst c1; replace c3 := c3.symm; subst c3; replace c5 := c5.symm; subst c5; replace c6 := c6.symm; subst c6
      have JN : JI m_220 := by
        rw [me]
        exact J_taken hj N0 N9 E7.2 (by rw [← qe]; exact op) hb
      have t1 : thgV m_220 z_220 1 = s := by
        have w1 : m_220 1 = N_ + 1 := by rw [me, takesM_8 (fr := 0) (to := E_) (by omega) 1 (by omega), takesM_1]
        have w2 : m_220 (259 + 14 * N_) = q_ := by rw [me, takesM_8 (fr := 0) (to := E_) (by omega) (259 + 14 * N_) (by omega), takesM_ow]
        unfold thgV
        rw [if_pos ⟨by omega, by omega⟩, if_neg (by decide), if_pos rfl, ze, show ((N_ : Int)).toNat = N_ by omega, w2, qe]
      obtain ⟨fs_220, ho⟩ := I_220.gx
      refine r_istore (pc := 223) dL_law_223 (Nat.le_of_ble_eq_true rfl) ?_
      dsimp only [lsSt, List.set, mLs, mEnt]
      refine r_aload_n (pc := 225) dL_law_225 rfl (by first | rfl | exact isRefV_rf _) ?_
      refine r_callV0 (pc := 226) dL_law_226 qX10_clear kL_115 vX10_clear ho rfl rfl (Nat.le_of_ble_eq_true rfl) ((oc_clear hG (by omega) I_220).deeper (Nat.le_of_ble_eq_true rfl)) (fun v_226 h_226 q_226 => ?_)
      obtain ⟨z_226, g_226, m_226, kp_226, po_226, zt_226, ft_226, rfl, R_226, I_226, F_226, s_226, t_226, u_226⟩ := q_226
      obtain ⟨e1, e2, e3, e4, e5, e6, e7⟩ := R_226
      subst e1
      replace e2 := e2.symm; subst e2; replace e3 := e3.symm; subst e3; replace e4 := e4.symm; subst e4; replace e5 := e5.symm; subst e5; replace e6 := e6.symm; subst e6; replace e7 := e7.symm; subst e7
      obtain ⟨fs_226, ho⟩ := I_226.gx
      refine r_istore (pc := 229) dL_law_229 (Nat.le_of_ble_eq_true rfl) ?_
      dsimp only [lsSt, List.set, mLs, mEnt]
      refine r_iload_n (pc := 231) dL_law_231 rfl ?_
      refine r_iload (pc := 232) dL_law_232 rfl ?_
      refine rj_bipush (pc := 234) dL_law_234 (by decide +kernel) ?_
      refine rj_icmp_eq (pc := 236) (tgt := 270) dL_law_236 (by decide) (by first | exact b01_r | exact bz_r | omega | (constructor <;> omega) | apply_assumption | (apply atF_r; assumption) | fail "no range") (by first | exact b01_r | exact bz_r | omega | (constructor <;> omega) | apply_assumption | (apply atF_r; assumption) | fail "no range") (fun c_236 => ?_) (fun c_236 => ?_)
      · exfalso; first | omega | contradiction | (simp at *; done)
      · refine r_iload (pc := 239) dL_law_239 rfl ?_
        refine rj_bipush (pc := 241) dL_law_241 (by decide +kernel) ?_
        refine rj_icmp_eq (pc := 243) (tgt := 270) dL_law_243 (by decide) (by first | exact b01_r | exact bz_r | omega | (constructor <;> omega) | apply_assumption | (apply atF_r; assumption) | fail "no range") (by first | exact b01_r | exact bz_r | omega | (constructor <;> omega) | apply_assumption | (apply atF_r; assumption) | fail "no range") (fun c_243 => ?_) (fun c_243 => ?_)
        · exfalso; first | omega | contradiction | (simp at *; done)
        · refine r_iload (pc := 246) dL_law_246 rfl ?_
          refine r_iload (pc := 248) dL_law_248 rfl ?_
          refine rj_icmp_ne (pc := 250) (tgt := 274) dL_law_250 (by decide) (by first | exact b01_r | exact bz_r | omega | (constructor <;> omega) | apply_assumption | (apply atF_r; assumption) | fail "no range") (by first | exact b01_r | exact bz_r | omega | (constructor <;> omega) | apply_assumption | (apply atF_r; assumption) | fail "no range") (fun c_250 => ?_) (fun c_250 => ?_)
          · exfalso; first | omega | contradiction | (simp at *; done)
          · refine r_aload_n (pc := 253) dL_law_253 rfl (by first | rfl | exact isRefV_rf _) ?_
            refine r_iload (pc := 254) dL_law_254 rfl ?_
            refine rj_iconst (pc := 256) dL_law_256 ?_
            refine r_callV2 (pc := 257) dL_law_257 qX10_thing kL_53 vX10_thing ho rfl rfl (Nat.le_of_ble_eq_true rfl) ((oa_thing I_226 (a := z_220) (by constructor <;> omega) (i := 1) (by omega)).deeper (Nat.le_of_ble_eq_true rfl)) (fun v_257 h_257 q_257 => ?_)
            obtain ⟨rfl, e_h⟩ := q_257; replace e_h := e_h.symm; subst e_h
            rw [t1]
            refine r_iload (pc := 260) dL_law_260 rfl ?_
            refine rj_icmp_ne (pc := 262) (tgt := 274) dL_law_262 (by decide) (by first | exact b01_r | exact bz_r | omega | (constructor <;> omega) | apply_assumption | (apply atF_r; assumption) | fail "no range") (by first | exact b01_r | exact bz_r | omega | (constructor <;> omega) | apply_assumption | (apply atF_r; assumption) | fail "no range") (fun c_262 => ?_) (fun c_262 => ?_)
            · exfalso; first | omega | contradiction | (simp at *; done)
            · refine r_iload (pc := 265) dL_law_265 rfl ?_
              refine rj_if_ne (pc := 267) (tgt := 274) dL_law_267 (by decide) (by first | exact b01_r | exact bz_r | omega | (constructor <;> omega) | apply_assumption | (apply atF_r; assumption) | fail "no range") (fun c_267 => ?_) (fun c_267 => ?_)
              · try simp only [b01_0, bz_0, Classical.not_not] at c_267
                exfalso; first | omega | contradiction | (simp at *; done)
              · try simp only [b01_0, bz_0, Classical.not_not] at c_267
                refine rj_iconst (pc := 270) dL_law_270 ?_
                refine r_goto (pc := 271) (tgt := 275) dL_law_271 (by decide) ?_
                refine rj_and1 (pc := 275) dL_law_275 ?_
                refine r_istore_n (pc := 276) dL_law_276 (Nat.le_of_ble_eq_true rfl) ?_
                dsimp only [lsSt, List.set, mLs, mEnt]
                refine r_goto (pc := 277) (tgt := 1216) dL_law_277 (by decide) ?_
                exact K _ _ _ _ _ _ _ z_220 _ _ _ _ _ I_226 JN (by omega) ⟨⟨(s_226.1.trans s_220.1).trans (F_212.1.trans fr_203.1.1), fun q hq => ((s_226.2 q hq).trans (s_220.2 q hq)).trans ((F_212.2.2.2 q (by unfold kBlk; omega)).trans (fr_203.1.2 q hq))⟩, by have := F_212.2.1; omega, by have := F_212.2.2.1; omega⟩ (by constructor <;> omega) (Or.inl (by omega))
end NG

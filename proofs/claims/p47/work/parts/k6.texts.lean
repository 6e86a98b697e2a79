/-! ===== the law's names and texts (by program) ===== -/
/-- a name of two letters -/
def nm (k : Int) : List Int := [97 + k / 7, 107 + k % 7]
theorem nm_ok {k : Int} (h : 0 ≤ k ∧ k ≤ 15) : tOk (nm k) := by
  intro c hc
  rcases List.mem_cons.mp hc with q | q
  · rw [q]; omega
  · rw [List.mem_singleton.mp q]; omega
theorem nm_div {k : Int} (h : 0 ≤ k ∧ k ≤ 15) : J k / J 7 = J (k / 7) ∧ J k - J k / J 7 * J 7 = J (k % 7) ∧ ¬ J 7 = 0 := by
  obtain ⟨n, rfl⟩ : ∃ n : Nat, k = n := ⟨k.toNat, by omega⟩
  have z : ∀ q : Fin 16, Int32.ofInt ((q.val : Nat) : Int) / Int32.ofInt 7 = Int32.ofInt (((q.val : Nat) : Int) / 7) ∧ Int32.ofInt ((q.val : Nat) : Int) - Int32.ofInt ((q.val : Nat) : Int) / Int32.ofInt 7 * Int32.ofInt 7 = Int32.ofInt (((q.val : Nat) : Int) % 7) ∧ ¬ Int32.ofInt 7 = 0 := by decide +kernel
  rw [J_def, J_def, J_def, J_def]
  exact z ⟨n, by omega⟩
/-- the texts of steps that the law makes -/
def TX (t : List Int) : Prop := t = [43, 49, 61, 51] ∨ (∃ i : Int, (1 ≤ i ∧ i ≤ 32) ∧ t = [33] ++ dg i) ∨ (∃ k : Int, (0 ≤ k ∧ k ≤ 15) ∧ t = [120] ++ nm k) ∨ (∃ k j : Int, (0 ≤ k ∧ k ≤ 15) ∧ (0 ≤ j ∧ j ≤ 3) ∧ t = [109] ++ nm k ++ [62] ++ dg j) ∨ (∃ k : Int, (0 ≤ k ∧ k ≤ 15) ∧ t = [97] ++ nm k ++ [123, 43, 50, 61, 49, 125]) ∨ t = [63, 49, 60, 57, 58, 43, 49, 61, 52] ∨ (∃ j : Int, (0 ≤ j ∧ j ≤ 3) ∧ t = [107] ++ dg j) ∨ t = [46]
/-- a String that was there, or was made behind a heap -/
def isAny (G : mG) (h0 h : mH) (p w : Nat) (u : List Int) : Prop := isCon G p w u ∨ isNew h0 h p w u
theorem dg_le {i : Int} : (dg i).length ≤ 2 := by rw [dg_l]; unfold dgW; split <;> omega
theorem TX_le {t : List Int} (h : TX t) : t.length ≤ 9 := by
  rcases h with rfl | ⟨i, -, rfl⟩ | ⟨k, -, rfl⟩ | ⟨k, j, -, -, rfl⟩ | ⟨k, -, rfl⟩ | rfl | ⟨j, -, rfl⟩ | rfl
  · decide
  · have := dg_le (i := i); simp only [List.length_append, List.length_cons, List.length_nil]; omega
  · simp [nm]
  · have := dg_le (i := j); simp only [List.length_append, List.length_cons, List.length_nil, nm]; omega
  · simp [nm]
  · decide
  · have := dg_le (i := j); simp only [List.length_append, List.length_cons, List.length_nil]; omega
  · decide
section K6
variable {G : mG} {l : Launch} {h : mH}
theorem bl_A {d : Nat} {M : mM} {pc : Nat} {ls : List (Option Value)} {st : List Value} {h0 hp : mH} {Q : Option Value → mH → Prop} {k s k' s' a : Nat} {t u : List Int} {i : Nat} {p w : Nat} (hG : G.2.map Prod.snd = mTy) (hd : decode M.2.1 pc = .ok (.invokevirtual i, 3)) (hk : mLk M.1.cls i mJ4_append_15ec4) (hB : BLD k s h0 hp a t) (o : NEWS k' s' hp h) (hS : isAny G hp h p w u) (hm : t.length + u.length ≤ 100) (hW : (st.map fun v => v.category).sum ≤ 6)
    (K : ∀ (h1 : mH), BLD (k + k' + 1) (s + s' + 202) h0 h1 a (t ++ u) → RUN G l (d + 6) M (pc + 3) ls (.ref a :: st) h1 Q) : RUN G l (d + 6) M pc ls (.ref p :: .ref a :: st) h Q := by
  rcases hS with hS | hS
  · exact bl_S hG hd hk (hB.kp o) hS hm hW K
  · exact bl_N hG hd hk hB o hS hm hW K
theorem BLD.lo {h0 : mH} {k s a : Nat} {t : List Int} (hB : BLD k s h0 h a t) : h.1 ≤ h.2.1 := by
  obtain ⟨b, bs, ⟨-, -, -, z⟩, -⟩ := hB
  omega
theorem jk_name (d : Nat) (hG : G.2.map Prod.snd = mTy) (hlo : h.1 ≤ h.2.1) {k : Int} (hk : 0 ≤ k ∧ k ≤ 15) : RUNM G l (d + 6) mL_name [.int (J k)] h (fun v h' => ∃ p w, v = some (.ref p) ∧ isNew h h' p w (nm k) ∧ NEWS 7 900 h h') := by
  refine RUNM.of (by decide +kernel) (Nat.le_of_ble_eq_true rfl) ?_
  refine bl_new (d := d + 3) (pc := 0) hG dL_name_0 dL_name_3 dL_name_4 cL_25 kL_27 hlo (by simp [Value.category]) (fun h_0 a_0 B_0 => ?_)
  refine r_ldcS (pc := 7) (k := 0) dL_name_7 rfl (by decide) rfl ?_
  refine bl_S (pc := 9) hG dL_name_9 kL_30 B_0 (con_of G (u := []) (by decide) (by decide +kernel)) (by decide) (by simp [Value.category]) (fun h_9 B_9 => ?_)
  refine rj_bipush (pc := 12) dL_name_12 (by decide +kernel) ?_
  refine r_iload_n (pc := 14) dL_name_14 rfl ?_
  refine rj_bipush (pc := 15) dL_name_15 (by decide +kernel) ?_
  refine r_idiv (pc := 17) dL_name_17 (nm_div hk).2.2 ?_
  rw [(nm_div hk).1]
  refine rj_iadd (pc := 18) dL_name_18 ?_
  refine rj_i2c (pc := 19) dL_name_19 (by omega) ?_
  refine bl_C (pc := 20) hG dL_name_20 kL_34 B_9 (by omega) (by decide) (by simp [Value.category]) (fun h_20 B_20 => ?_)
  refine rj_bipush (pc := 23) dL_name_23 (by decide +kernel) ?_
  refine r_iload_n (pc := 25) dL_name_25 rfl ?_
  refine rj_bipush (pc := 26) dL_name_26 (by decide +kernel) ?_
  refine r_irem (pc := 28) dL_name_28 (nm_div hk).2.2 ?_
  rw [(nm_div hk).2.1]
  refine rj_iadd (pc := 29) dL_name_29 ?_
  refine rj_i2c (pc := 30) dL_name_30 (by omega) ?_
  refine bl_C (pc := 31) hG dL_name_31 kL_34 B_20 (by omega) (by simp) (by simp [Value.category]) (fun h_31 B_31 => ?_)
  refine bl_end (pc := 34) hG dL_name_34 kL_37 B_31 (by simp [Value.category]) (fun h_34 p_34 w_34 N_34 S_34 => ?_)
  refine r_areturn (pc := 37) _ dL_name_37 rfl (Or.inl ⟨_, rfl⟩) (by first | rfl | exact isRefV_rf _) ?_
  exact ⟨p_34, w_34, rfl, N_34, S_34.up (by decide) (by decide)⟩
theorem jk_text (d : Nat) (hG : G.2.map Prod.snd = mTy) (hlo : h.1 ≤ h.2.1) (x : Int32) : RUNM G l (d + 12) mL_text [.int x] h (fun v h' => ∃ p w t, v = some (.ref p) ∧ TX t ∧ isAny G h h' p w t ∧ NEWS 20 2500 h h') := by
  refine RUNM.of (by decide +kernel) (Nat.le_of_ble_eq_true rfl) ?_
  refine r_iload_n (pc := 0) dL_text_0 rfl ?_
  refine rj_bipush (pc := 1) dL_text_1 (by decide +kernel) ?_
  refine r_iand (pc := 3) dL_text_3 ?_
  obtain ⟨e, e_1, e_2⟩ := and_J (x) (m := 7) (by decide)
  rw [e_1]
  refine rj_tsw (pc := 4) dL_text_4 (by first | exact b01_r | exact bz_r | omega | (constructor <;> omega) | apply_assumption | (apply atF_r; assumption) | fail "no range") (by decide) (by decide) (by decide) (fun off_4 tgt_4 ho_4 ht_4 => ?_)
  by_cases e_4_0 : e = 0
  · rw [e_4_0] at ho_4
    obtain rfl : off_4 = 44 := ho_4.symm.trans (by decide)
    obtain rfl : tgt_4 = 48 := by omega
    refine r_ldcS (pc := 48) (k := 1) dL_text_48 rfl (by decide) rfl ?_
    refine r_areturn (pc := 50) _ dL_text_50 rfl (Or.inl ⟨_, rfl⟩) (by first | rfl | exact isRefV_rf _) ?_
    exact ⟨_, _, [43, 49, 61, 51], rfl, (Or.inl rfl), Or.inl (con_of G (u := [43, 49, 61, 51]) (by decide) (by decide +kernel)), NEWS.rf.up (by decide) (by decide)⟩
  by_cases e_4_1 : e = 1
  · rw [e_4_1] at ho_4
    obtain rfl : off_4 = 47 := ho_4.symm.trans (by decide)
    obtain rfl : tgt_4 = 51 := by omega
    refine bl_new (d := d + 9) (pc := 51) hG dL_text_51 dL_text_54 dL_text_55 cL_25 kL_27 hlo (by simp [Value.category]) (fun h_51 a_51 B_51 => ?_)
    refine r_ldcS (pc := 58) (k := 2) dL_text_58 rfl (by decide) rfl ?_
    refine bl_S (d := d + 6) (pc := 60) hG dL_text_60 kL_30 B_51 (con_of G (u := [33]) (by decide) (by decide +kernel)) (by simp [nm]) (by simp [Value.category]) (fun h_60 B_60 => ?_)
    refine rj_iconst (pc := 63) dL_text_63 ?_
    refine r_iload_n (pc := 64) dL_text_64 rfl ?_
    refine rj_iconst (pc := 65) dL_text_65 ?_
    refine r_ishr (pc := 66) dL_text_66 ?_
    refine rj_bipush (pc := 67) dL_text_67 (by decide +kernel) ?_
    refine r_iand (pc := 69) dL_text_69 ?_
    obtain ⟨e1, e1_1, e1_2⟩ := and_J (x >>> (J 3 &&& 31)) (m := 31) (by decide)
    rw [e1_1]
    refine rj_iadd (pc := 70) dL_text_70 ?_
    refine bl_D (d := d + 6) (pc := 71) hG dL_text_71 kL_64 B_60 (by omega) (by simp [nm]) (by simp [Value.category]) (fun h_71 B_71 => ?_)
    refine bl_end (d := d + 6) (pc := 74) hG dL_text_74 kL_37 B_71 (by simp [Value.category]) (fun h_74 p_74 w_74 N_74 S_74 => ?_)
    refine r_areturn (pc := 77) _ dL_text_77 rfl (Or.inl ⟨_, rfl⟩) (by first | rfl | exact isRefV_rf _) ?_
    exact ⟨p_74, w_74, _, rfl, (Or.inr (Or.inl ⟨1 + e1, ⟨by omega, by omega⟩, rfl⟩)), Or.inr N_74, S_74.up (by decide) (by decide)⟩
  by_cases e_4_2 : e = 2
  · rw [e_4_2] at ho_4
    obtain rfl : off_4 = 74 := ho_4.symm.trans (by decide)
    obtain rfl : tgt_4 = 78 := by omega
    refine bl_new (d := d + 9) (pc := 78) hG dL_text_78 dL_text_81 dL_text_82 cL_25 kL_27 hlo (by simp [Value.category]) (fun h_78 a_78 B_78 => ?_)
    refine r_ldcS (pc := 85) (k := 3) dL_text_85 rfl (by decide) rfl ?_
    refine bl_S (d := d + 6) (pc := 87) hG dL_text_87 kL_30 B_78 (con_of G (u := [120]) (by decide) (by decide +kernel)) (by simp [nm]) (by simp [Value.category]) (fun h_87 B_87 => ?_)
    refine r_iload_n (pc := 90) dL_text_90 rfl ?_
    refine rj_iconst (pc := 91) dL_text_91 ?_
    refine r_ishr (pc := 92) dL_text_92 ?_
    refine rj_bipush (pc := 93) dL_text_93 (by decide +kernel) ?_
    refine r_iand (pc := 95) dL_text_95 ?_
    obtain ⟨e1, e1_1, e1_2⟩ := and_J (x >>> (J 3 &&& 31)) (m := 15) (by decide)
    rw [e1_1]
    refine r_callS1 (pc := 96) dL_text_96 qL_name kL_69 sL_name (by simp [Value.category]) (jk_name (d + 5) hG B_87.lo e1_2) (fun v_96 h_96 q_96 => ?_)
    obtain ⟨p_96, w_96, rfl, N_96, S_96⟩ := q_96
    refine bl_N (d := d + 6) (pc := 99) hG dL_text_99 kL_30 B_87 S_96 N_96 (by simp [nm]) (by simp [Value.category]) (fun h_99 B_99 => ?_)
    refine bl_end (d := d + 6) (pc := 102) hG dL_text_102 kL_37 B_99 (by simp [Value.category]) (fun h_102 p_102 w_102 N_102 S_102 => ?_)
    refine r_areturn (pc := 105) _ dL_text_105 rfl (Or.inl ⟨_, rfl⟩) (by first | rfl | exact isRefV_rf _) ?_
    exact ⟨p_102, w_102, _, rfl, (Or.inr (Or.inr (Or.inl ⟨e1, e1_2, rfl⟩))), Or.inr N_102, S_102.up (by decide) (by decide)⟩
  by_cases e_4_3 : e = 3
  · rw [e_4_3] at ho_4
    obtain rfl : off_4 = 102 := ho_4.symm.trans (by decide)
    obtain rfl : tgt_4 = 106 := by omega
    refine bl_new (d := d + 9) (pc := 106) hG dL_text_106 dL_text_109 dL_text_110 cL_25 kL_27 hlo (by simp [Value.category]) (fun h_106 a_106 B_106 => ?_)
    refine r_ldcS (pc := 113) (k := 4) dL_text_113 rfl (by decide) rfl ?_
    refine bl_S (d := d + 6) (pc := 115) hG dL_text_115 kL_30 B_106 (con_of G (u := [109]) (by decide) (by decide +kernel)) (by simp [nm]) (by simp [Value.category]) (fun h_115 B_115 => ?_)
    refine r_iload_n (pc := 118) dL_text_118 rfl ?_
    refine rj_iconst (pc := 119) dL_text_119 ?_
    refine r_ishr (pc := 120) dL_text_120 ?_
    refine rj_bipush (pc := 121) dL_text_121 (by decide +kernel) ?_
    refine r_iand (pc := 123) dL_text_123 ?_
    obtain ⟨e1, e1_1, e1_2⟩ := and_J (x >>> (J 3 &&& 31)) (m := 15) (by decide)
    rw [e1_1]
    refine r_callS1 (pc := 124) dL_text_124 qL_name kL_69 sL_name (by simp [Value.category]) (jk_name (d + 5) hG B_115.lo e1_2) (fun v_124 h_124 q_124 => ?_)
    obtain ⟨p_124, w_124, rfl, N_124, S_124⟩ := q_124
    refine bl_N (d := d + 6) (pc := 127) hG dL_text_127 kL_30 B_115 S_124 N_124 (by simp [nm]) (by simp [Value.category]) (fun h_127 B_127 => ?_)
    refine r_ldcS (pc := 130) (k := 5) dL_text_130 rfl (by decide) rfl ?_
    refine bl_S (d := d + 6) (pc := 132) hG dL_text_132 kL_30 B_127 (con_of G (u := [62]) (by decide) (by decide +kernel)) (by simp [nm]) (by simp [Value.category]) (fun h_132 B_132 => ?_)
    refine r_iload_n (pc := 135) dL_text_135 rfl ?_
    refine rj_bipush (pc := 136) dL_text_136 (by decide +kernel) ?_
    refine r_ishr (pc := 138) dL_text_138 ?_
    refine rj_iconst (pc := 139) dL_text_139 ?_
    refine r_iand (pc := 140) dL_text_140 ?_
    obtain ⟨e2, e2_1, e2_2⟩ := and_J (x >>> (J 7 &&& 31)) (m := 3) (by decide)
    rw [e2_1]
    refine bl_D (d := d + 6) (pc := 141) hG dL_text_141 kL_64 B_132 (by omega) (by simp [nm]) (by simp [Value.category]) (fun h_141 B_141 => ?_)
    refine bl_end (d := d + 6) (pc := 144) hG dL_text_144 kL_37 B_141 (by simp [Value.category]) (fun h_144 p_144 w_144 N_144 S_144 => ?_)
    refine r_areturn (pc := 147) _ dL_text_147 rfl (Or.inl ⟨_, rfl⟩) (by first | rfl | exact isRefV_rf _) ?_
    exact ⟨p_144, w_144, _, rfl, (Or.inr (Or.inr (Or.inr (Or.inl ⟨e1, e2, e1_2, e2_2, rfl⟩)))), Or.inr N_144, S_144.up (by decide) (by decide)⟩
  by_cases e_4_4 : e = 4
  · rw [e_4_4] at ho_4
    obtain rfl : off_4 = 144 := ho_4.symm.trans (by decide)
    obtain rfl : tgt_4 = 148 := by omega
    refine bl_new (d := d + 9) (pc := 148) hG dL_text_148 dL_text_151 dL_text_152 cL_25 kL_27 hlo (by simp [Value.category]) (fun h_148 a_148 B_148 => ?_)
    refine r_ldcS (pc := 155) (k := 6) dL_text_155 rfl (by decide) rfl ?_
    refine bl_S (d := d + 6) (pc := 157) hG dL_text_157 kL_30 B_148 (con_of G (u := [97]) (by decide) (by decide +kernel)) (by simp [nm]) (by simp [Value.category]) (fun h_157 B_157 => ?_)
    refine r_iload_n (pc := 160) dL_text_160 rfl ?_
    refine rj_iconst (pc := 161) dL_text_161 ?_
    refine r_ishr (pc := 162) dL_text_162 ?_
    refine rj_bipush (pc := 163) dL_text_163 (by decide +kernel) ?_
    refine r_iand (pc := 165) dL_text_165 ?_
    obtain ⟨e1, e1_1, e1_2⟩ := and_J (x >>> (J 3 &&& 31)) (m := 15) (by decide)
    rw [e1_1]
    refine r_callS1 (pc := 166) dL_text_166 qL_name kL_69 sL_name (by simp [Value.category]) (jk_name (d + 5) hG B_157.lo e1_2) (fun v_166 h_166 q_166 => ?_)
    obtain ⟨p_166, w_166, rfl, N_166, S_166⟩ := q_166
    refine bl_N (d := d + 6) (pc := 169) hG dL_text_169 kL_30 B_157 S_166 N_166 (by simp [nm]) (by simp [Value.category]) (fun h_169 B_169 => ?_)
    refine r_ldcS (pc := 172) (k := 7) dL_text_172 rfl (by decide) rfl ?_
    refine bl_S (d := d + 6) (pc := 174) hG dL_text_174 kL_30 B_169 (con_of G (u := [123, 43, 50, 61, 49, 125]) (by decide) (by decide +kernel)) (by simp [nm]) (by simp [Value.category]) (fun h_174 B_174 => ?_)
    refine bl_end (d := d + 6) (pc := 177) hG dL_text_177 kL_37 B_174 (by simp [Value.category]) (fun h_177 p_177 w_177 N_177 S_177 => ?_)
    refine r_areturn (pc := 180) _ dL_text_180 rfl (Or.inl ⟨_, rfl⟩) (by first | rfl | exact isRefV_rf _) ?_
    exact ⟨p_177, w_177, _, rfl, (Or.inr (Or.inr (Or.inr (Or.inr (Or.inl ⟨e1, e1_2, rfl⟩))))), Or.inr N_177, S_177.up (by decide) (by decide)⟩
  by_cases e_4_5 : e = 5
  · rw [e_4_5] at ho_4
    obtain rfl : off_4 = 177 := ho_4.symm.trans (by decide)
    obtain rfl : tgt_4 = 181 := by omega
    refine r_ldcS (pc := 181) (k := 8) dL_text_181 rfl (by decide) rfl ?_
    refine r_areturn (pc := 183) _ dL_text_183 rfl (Or.inl ⟨_, rfl⟩) (by first | rfl | exact isRefV_rf _) ?_
    exact ⟨_, _, [63, 49, 60, 57, 58, 43, 49, 61, 52], rfl, (Or.inr (Or.inr (Or.inr (Or.inr (Or.inr (Or.inl rfl)))))), Or.inl (con_of G (u := [63, 49, 60, 57, 58, 43, 49, 61, 52]) (by decide) (by decide +kernel)), NEWS.rf.up (by decide) (by decide)⟩
  by_cases e_4_6 : e = 6
  · rw [e_4_6] at ho_4
    obtain rfl : off_4 = 180 := ho_4.symm.trans (by decide)
    obtain rfl : tgt_4 = 184 := by omega
    refine bl_new (d := d + 9) (pc := 184) hG dL_text_184 dL_text_187 dL_text_188 cL_25 kL_27 hlo (by simp [Value.category]) (fun h_184 a_184 B_184 => ?_)
    refine r_ldcS (pc := 191) (k := 9) dL_text_191 rfl (by decide) rfl ?_
    refine bl_S (d := d + 6) (pc := 193) hG dL_text_193 kL_30 B_184 (con_of G (u := [107]) (by decide) (by decide +kernel)) (by simp [nm]) (by simp [Value.category]) (fun h_193 B_193 => ?_)
    refine r_iload_n (pc := 196) dL_text_196 rfl ?_
    refine rj_iconst (pc := 197) dL_text_197 ?_
    refine r_ishr (pc := 198) dL_text_198 ?_
    refine rj_iconst (pc := 199) dL_text_199 ?_
    refine r_iand (pc := 200) dL_text_200 ?_
    obtain ⟨e1, e1_1, e1_2⟩ := and_J (x >>> (J 3 &&& 31)) (m := 3) (by decide)
    rw [e1_1]
    refine bl_D (d := d + 6) (pc := 201) hG dL_text_201 kL_64 B_193 (by omega) (by simp [nm]) (by simp [Value.category]) (fun h_201 B_201 => ?_)
    refine bl_end (d := d + 6) (pc := 204) hG dL_text_204 kL_37 B_201 (by simp [Value.category]) (fun h_204 p_204 w_204 N_204 S_204 => ?_)
    refine r_areturn (pc := 207) _ dL_text_207 rfl (Or.inl ⟨_, rfl⟩) (by first | rfl | exact isRefV_rf _) ?_
    exact ⟨p_204, w_204, _, rfl, (Or.inr (Or.inr (Or.inr (Or.inr (Or.inr (Or.inr (Or.inl ⟨e1, e1_2, rfl⟩))))))), Or.inr N_204, S_204.up (by decide) (by decide)⟩
  have eo_4 : off_4 = 204 := by
    rw [← ho_4]
    unfold tswOff
    rw [if_pos (by omega)]
  obtain rfl : tgt_4 = 208 := by omega
  refine r_ldcS (pc := 208) (k := 10) dL_text_208 rfl (by decide) rfl ?_
  refine r_areturn (pc := 210) _ dL_text_210 rfl (Or.inl ⟨_, rfl⟩) (by first | rfl | exact isRefV_rf _) ?_
  exact ⟨_, _, [46], rfl, (Or.inr (Or.inr (Or.inr (Or.inr (Or.inr (Or.inr (Or.inr rfl))))))), Or.inl (con_of G (u := [46]) (by decide) (by decide +kernel)), NEWS.rf.up (by decide) (by decide)⟩
end K6

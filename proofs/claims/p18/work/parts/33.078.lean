section mg_45
set_option maxHeartbeats 4000000 in
set_option maxRecDepth 100000 in
theorem m_of {G : mG} {l : Launch} (d : Nat) {h : mH} {x s : Nat} {f4 f6 f8 f9 f10 f11 f12 f13 f14 f16 f18 : Int} {m kp was pool tape pln pap rwd rw : Nat → Int}(hB : isM h x (mFs x f4 f6 f8 f9 f10 f11 f12 f13 f14 f16 f18 s) m kp was pool tape pln pap rwd rw) (hM : ∀ q, InR (m q)) (h3 : 0 ≤ m 3 ∧ m 3 ≤ 10) {C : Nat} (hC : m 0 = (C : Int)) (hC2 : C ≤ 60) (h11 : 0 ≤ f11 ∧ f11 ≤ 99999) {t k : Int} (ht : InR t) (hk : InR k) (hX : 0 ≤ t ∧ t ≤ m 3 - 1 → 0 ≤ m (1616 + 72 * t).toNat ∧ m (1616 + 72 * t).toNat ≤ m (1617 + 72 * t).toNat ∧ txOk 3 pool pool tape (m (1617 + 72 * t).toNat)) : RUNM G l (d + 33) mX11_of [.ref x, .int (J t), .int (J k)] h (fun v h' => v = some (.int (J (ofV m pool C t k f11 f12))) ∧ (isMs h' x f4 f6 f14 f16 f18 m kp was pool tape pln pap rwd rw ∧ Same (mBlk x) h h')) := by
  have hB0 := hB
  dsimp only [mFs] at hB
  refine RUNM.of (by decide +kernel) (Nat.le_of_ble_eq_true rfl) ?_
  refine r_aload_n (pc := 0) dX11_of_0 rfl (by first | rfl | exact isRefV_rf _) ?_
  refine r_iload_n (pc := 1) dX11_of_1 rfl ?_
  refine r_callV1 (pc := 2) dX11_of_2 qX11_isTask kX11_180 vX11_isTask (by exact isM.gx (by assumption)) rfl rfl (Nat.le_of_ble_eq_true rfl) (m_isTask (d + 31) hB0 ht ⟨by omega, by omega⟩) (fun v_2 h_2 q_2 => ?_)
  obtain ⟨rfl, rfl⟩ := q_2
  refine rj_if_ne (pc := 5) (tgt := 10) dX11_of_5 (by decide) (by first | assumption | exact b01_r | exact bz_r | omega | (constructor <;> omega) | exact hM _ | exact hPo _ | exact hTa _ | exact hRo _) (fun c_5 => ?_) (fun c_5 => ?_)
  · try simp only [b01_0, bz_0, Classical.not_not] at c_5
    have hT := hX c_5
    refine r_iload_n (pc := 10) dX11_of_10 rfl ?_
    refine rj_tsw (pc := 11) dX11_of_11 (by first | assumption | exact b01_r | exact bz_r | omega | (constructor <;> omega) | exact hM _ | exact hPo _ | exact hTa _ | exact hRo _) (by decide) (by decide) (by decide) (fun off_11 tgt_11 ho_11 ht_11 => ?_)
    by_cases e_11_0 : k = 0
    · rw [e_11_0] at ho_11
      obtain rfl : off_11 = 45 := ho_11.symm.trans (by decide)
      obtain rfl : tgt_11 = 56 := by omega
      refine r_aload_n (pc := 56) dX11_of_56 rfl (by first | rfl | exact isRefV_rf _) ?_
      refine rm_getf (pc := 57) dX11_of_57 fX11_11 (by assumption) rfl ?_
      refine r_iload_n (pc := 60) dX11_of_60 rfl ?_
      refine rj_iconst (pc := 61) dX11_of_61 ?_
      refine rj_iconst (pc := 62) dX11_of_62 ?_
      refine r_callS3 (pc := 63) dX11_of_63 qX11_ofTask kX11_58 sX11_ofTask (Nat.le_of_ble_eq_true rfl) (m_ofTask (d + 32)) (fun v_63 h_63 q_63 => ?_)
      obtain ⟨rfl, rfl⟩ := q_63
      refine rj_iald (pc := 66) (j := (1610 + 72 * t).toNat) dX11_of_66 (by first | exact isM.g0 (by assumption) | exact isM.g3 (by assumption) | exact isM.g4 (by assumption) | exact isM.g8 (by assumption) | exact isM.g7 (by assumption) | exact isM.g6 (by assumption) | exact isM.g5 (by assumption) | exact isM.g1 (by assumption) | exact isM.g2 (by assumption)) (by first | assumption | exact b01_r | exact bz_r | omega | (constructor <;> omega) | exact hM _ | exact hPo _ | exact hTa _ | exact hRo _) (by first | assumption | exact b01_r | exact bz_r | omega | (constructor <;> omega) | exact hM _ | exact hPo _ | exact hTa _ | exact hRo _) (by first | assumption | exact b01_r | exact bz_r | omega | (constructor <;> omega) | exact hM _ | exact hPo _ | exact hTa _ | exact hRo _) (by omega) ?_
      refine r_ireturn (pc := 67) .int dX11_of_67 rfl (by first | rfl | assumption) ?_
      exact ⟨by unfold ofV; rw [if_pos c_5, if_pos e_11_0], ⟨_, _, _, _, _, _, _, h11, hB0⟩, Same.refl⟩
    by_cases e_11_1 : k = 1
    · rw [e_11_1] at ho_11
      obtain rfl : off_11 = 57 := ho_11.symm.trans (by decide)
      obtain rfl : tgt_11 = 68 := by omega
      refine r_aload_n (pc := 68) dX11_of_68 rfl (by first | rfl | exact isRefV_rf _) ?_
      refine rm_getf (pc := 69) dX11_of_69 fX11_11 (by assumption) rfl ?_
      refine r_iload_n (pc := 72) dX11_of_72 rfl ?_
      refine rj_iconst (pc := 73) dX11_of_73 ?_
      refine rj_iconst (pc := 74) dX11_of_74 ?_
      refine r_callS3 (pc := 75) dX11_of_75 qX11_ofTask kX11_58 sX11_ofTask (Nat.le_of_ble_eq_true rfl) (m_ofTask (d + 32)) (fun v_75 h_75 q_75 => ?_)
      obtain ⟨rfl, rfl⟩ := q_75
      refine rj_iald (pc := 78) (j := (1609 + 72 * t).toNat) dX11_of_78 (by first | exact isM.g0 (by assumption) | exact isM.g3 (by assumption) | exact isM.g4 (by assumption) | exact isM.g8 (by assumption) | exact isM.g7 (by assumption) | exact isM.g6 (by assumption) | exact isM.g5 (by assumption) | exact isM.g1 (by assumption) | exact isM.g2 (by assumption)) (by first | assumption | exact b01_r | exact bz_r | omega | (constructor <;> omega) | exact hM _ | exact hPo _ | exact hTa _ | exact hRo _) (by first | assumption | exact b01_r | exact bz_r | omega | (constructor <;> omega) | exact hM _ | exact hPo _ | exact hTa _ | exact hRo _) (by first | assumption | exact b01_r | exact bz_r | omega | (constructor <;> omega) | exact hM _ | exact hPo _ | exact hTa _ | exact hRo _) (by omega) ?_
      refine rj_bipush (pc := 79) dX11_of_79 (by decide +kernel) ?_
      refine rj_iadd (pc := 81) dX11_of_81 ?_
      refine r_ireturn (pc := 82) .int dX11_of_82 rfl (by first | rfl | assumption) ?_
      exact ⟨by unfold ofV; rw [if_pos c_5, if_neg e_11_0, if_pos e_11_1], ⟨_, _, _, _, _, _, _, h11, hB0⟩, Same.refl⟩
    by_cases e_11_2 : k = 2
    · rw [e_11_2] at ho_11
      obtain rfl : off_11 = 72 := ho_11.symm.trans (by decide)
      obtain rfl : tgt_11 = 83 := by omega
      refine r_aload_n (pc := 83) dX11_of_83 rfl (by first | rfl | exact isRefV_rf _) ?_
      refine rm_getf (pc := 84) dX11_of_84 fX11_11 (by assumption) rfl ?_
      refine r_iload_n (pc := 87) dX11_of_87 rfl ?_
      refine rj_iconst (pc := 88) dX11_of_88 ?_
      refine rj_iconst (pc := 89) dX11_of_89 ?_
      refine r_callS3 (pc := 90) dX11_of_90 qX11_ofTask kX11_58 sX11_ofTask (Nat.le_of_ble_eq_true rfl) (m_ofTask (d + 32)) (fun v_90 h_90 q_90 => ?_)
      obtain ⟨rfl, rfl⟩ := q_90
      refine rj_iald (pc := 93) (j := (1612 + 72 * t).toNat) dX11_of_93 (by first | exact isM.g0 (by assumption) | exact isM.g3 (by assumption) | exact isM.g4 (by assumption) | exact isM.g8 (by assumption) | exact isM.g7 (by assumption) | exact isM.g6 (by assumption) | exact isM.g5 (by assumption) | exact isM.g1 (by assumption) | exact isM.g2 (by assumption)) (by first | assumption | exact b01_r | exact bz_r | omega | (constructor <;> omega) | exact hM _ | exact hPo _ | exact hTa _ | exact hRo _) (by first | assumption | exact b01_r | exact bz_r | omega | (constructor <;> omega) | exact hM _ | exact hPo _ | exact hTa _ | exact hRo _) (by first | assumption | exact b01_r | exact bz_r | omega | (constructor <;> omega) | exact hM _ | exact hPo _ | exact hTa _ | exact hRo _) (by omega) ?_
      refine r_ireturn (pc := 94) .int dX11_of_94 rfl (by first | rfl | assumption) ?_
      exact ⟨by unfold ofV; rw [if_pos c_5, if_neg e_11_0, if_neg e_11_1, if_pos e_11_2], ⟨_, _, _, _, _, _, _, h11, hB0⟩, Same.refl⟩
    by_cases e_11_3 : k = 3
    · rw [e_11_3] at ho_11
      obtain rfl : off_11 = 84 := ho_11.symm.trans (by decide)
      obtain rfl : tgt_11 = 95 := by omega
      refine r_aload_n (pc := 95) dX11_of_95 rfl (by first | rfl | exact isRefV_rf _) ?_
      refine rm_getf (pc := 96) dX11_of_96 fX11_11 (by assumption) rfl ?_
      refine r_iload_n (pc := 99) dX11_of_99 rfl ?_
      refine rj_iconst (pc := 100) dX11_of_100 ?_
      refine rj_iconst (pc := 101) dX11_of_101 ?_
      refine r_callS3 (pc := 102) dX11_of_102 qX11_ofTask kX11_58 sX11_ofTask (Nat.le_of_ble_eq_true rfl) (m_ofTask (d + 32)) (fun v_102 h_102 q_102 => ?_)
      obtain ⟨rfl, rfl⟩ := q_102
      refine rj_iald (pc := 105) (j := (1608 + 72 * t).toNat) dX11_of_105 (by first | exact isM.g0 (by assumption) | exact isM.g3 (by assumption) | exact isM.g4 (by assumption) | exact isM.g8 (by assumption) | exact isM.g7 (by assumption) | exact isM.g6 (by assumption) | exact isM.g5 (by assumption) | exact isM.g1 (by assumption) | exact isM.g2 (by assumption)) (by first | assumption | exact b01_r | exact bz_r | omega | (constructor <;> omega) | exact hM _ | exact hPo _ | exact hTa _ | exact hRo _) (by first | assumption | exact b01_r | exact bz_r | omega | (constructor <;> omega) | exact hM _ | exact hPo _ | exact hTa _ | exact hRo _) (by first | assumption | exact b01_r | exact bz_r | omega | (constructor <;> omega) | exact hM _ | exact hPo _ | exact hTa _ | exact hRo _) (by omega) ?_
      refine r_ireturn (pc := 106) .int dX11_of_106 rfl (by first | rfl | assumption) ?_
      exact ⟨by unfold ofV; rw [if_pos c_5, if_neg e_11_0, if_neg e_11_1, if_neg e_11_2, if_pos e_11_3], ⟨_, _, _, _, _, _, _, h11, hB0⟩, Same.refl⟩
    by_cases e_11_4 : k = 4
    · rw [e_11_4] at ho_11
      obtain rfl : off_11 = 96 := ho_11.symm.trans (by decide)
      obtain rfl : tgt_11 = 107 := by omega
      refine r_aload_n (pc := 107) dX11_of_107 rfl (by first | rfl | exact isRefV_rf _) ?_
      refine r_iload_n (pc := 108) dX11_of_108 rfl ?_
      refine r_callV1 (pc := 109) dX11_of_109 qX11_notShut kX11_223 vX11_notShut (by exact isM.gx (by assumption)) rfl rfl (Nat.le_of_ble_eq_true rfl) (m_notShut (d + 30) hB0 hM hC hC2 ht) (fun v_109 h_109 q_109 => ?_)
      obtain ⟨rfl, rfl⟩ := q_109
      refine r_ireturn (pc := 112) .int dX11_of_112 rfl (by first | rfl | assumption) ?_
      exact ⟨by unfold ofV; rw [if_pos c_5, if_neg e_11_0, if_neg e_11_1, if_neg e_11_2, if_neg e_11_3, if_pos e_11_4], ⟨_, _, _, _, _, _, _, h11, hB0⟩, Same.refl⟩
    by_cases e_11_5 : k = 5
    · rw [e_11_5] at ho_11
      obtain rfl : off_11 = 102 := ho_11.symm.trans (by decide)
      obtain rfl : tgt_11 = 113 := by omega
      refine r_aload_n (pc := 113) dX11_of_113 rfl (by first | rfl | exact isRefV_rf _) ?_
      refine rm_getf (pc := 114) dX11_of_114 fX11_11 (by assumption) rfl ?_
      refine r_iload_n (pc := 117) dX11_of_117 rfl ?_
      refine rj_bipush (pc := 118) dX11_of_118 (by decide +kernel) ?_
      refine rj_iconst (pc := 120) dX11_of_120 ?_
      refine r_callS3 (pc := 121) dX11_of_121 qX11_ofTask kX11_58 sX11_ofTask (Nat.le_of_ble_eq_true rfl) (m_ofTask (d + 32)) (fun v_121 h_121 q_121 => ?_)
      obtain ⟨rfl, rfl⟩ := q_121
      refine rj_iald (pc := 124) (j := (1615 + 72 * t).toNat) dX11_of_124 (by first | exact isM.g0 (by assumption) | exact isM.g3 (by assumption) | exact isM.g4 (by assumption) | exact isM.g8 (by assumption) | exact isM.g7 (by assumption) | exact isM.g6 (by assumption) | exact isM.g5 (by assumption) | exact isM.g1 (by assumption) | exact isM.g2 (by assumption)) (by first | assumption | exact b01_r | exact bz_r | omega | (constructor <;> omega) | exact hM _ | exact hPo _ | exact hTa _ | exact hRo _) (by first | assumption | exact b01_r | exact bz_r | omega | (constructor <;> omega) | exact hM _ | exact hPo _ | exact hTa _ | exact hRo _) (by first | assumption | exact b01_r | exact bz_r | omega | (constructor <;> omega) | exact hM _ | exact hPo _ | exact hTa _ | exact hRo _) (by omega) ?_
      refine r_ireturn (pc := 125) .int dX11_of_125 rfl (by first | rfl | assumption) ?_
      exact ⟨by unfold ofV; rw [if_pos c_5, if_neg e_11_0, if_neg e_11_1, if_neg e_11_2, if_neg e_11_3, if_neg e_11_4, if_pos e_11_5], ⟨_, _, _, _, _, _, _, h11, hB0⟩, Same.refl⟩
    by_cases e_11_6 : k = 6
    · rw [e_11_6] at ho_11
      obtain rfl : off_11 = 115 := ho_11.symm.trans (by decide)
      obtain rfl : tgt_11 = 126 := by omega
      refine r_aload_n (pc := 126) dX11_of_126 rfl (by first | rfl | exact isRefV_rf _) ?_
      refine rm_getf (pc := 127) dX11_of_127 fX11_11 (by assumption) rfl ?_
      refine r_iload_n (pc := 130) dX11_of_130 rfl ?_
      refine rj_bipush (pc := 131) dX11_of_131 (by decide +kernel) ?_
      refine rj_iconst (pc := 133) dX11_of_133 ?_
      refine r_callS3 (pc := 134) dX11_of_134 qX11_ofTask kX11_58 sX11_ofTask (Nat.le_of_ble_eq_true rfl) (m_ofTask (d + 32)) (fun v_134 h_134 q_134 => ?_)
      obtain ⟨rfl, rfl⟩ := q_134
      refine rj_iald (pc := 137) (j := (1614 + 72 * t).toNat) dX11_of_137 (by first | exact isM.g0 (by assumption) | exact isM.g3 (by assumption) | exact isM.g4 (by assumption) | exact isM.g8 (by assumption) | exact isM.g7 (by assumption) | exact isM.g6 (by assumption) | exact isM.g5 (by assumption) | exact isM.g1 (by assumption) | exact isM.g2 (by assumption)) (by first | assumption | exact b01_r | exact bz_r | omega | (constructor <;> omega) | exact hM _ | exact hPo _ | exact hTa _ | exact hRo _) (by first | assumption | exact b01_r | exact bz_r | omega | (constructor <;> omega) | exact hM _ | exact hPo _ | exact hTa _ | exact hRo _) (by first | assumption | exact b01_r | exact bz_r | omega | (constructor <;> omega) | exact hM _ | exact hPo _ | exact hTa _ | exact hRo _) (by omega) ?_
      refine r_ireturn (pc := 138) .int dX11_of_138 rfl (by first | rfl | assumption) ?_
      exact ⟨by unfold ofV; rw [if_pos c_5, if_neg e_11_0, if_neg e_11_1, if_neg e_11_2, if_neg e_11_3, if_neg e_11_4, if_neg e_11_5, if_pos e_11_6], ⟨_, _, _, _, _, _, _, h11, hB0⟩, Same.refl⟩
    by_cases e_11_7 : k = 7
    · rw [e_11_7] at ho_11
      obtain rfl : off_11 = 128 := ho_11.symm.trans (by decide)
      obtain rfl : tgt_11 = 139 := by omega
      refine r_aload_n (pc := 139) dX11_of_139 rfl (by first | rfl | exact isRefV_rf _) ?_
      refine r_aload_n (pc := 140) dX11_of_140 rfl (by first | rfl | exact isRefV_rf _) ?_
      refine rm_getf (pc := 141) dX11_of_141 fX11_11 (by assumption) rfl ?_
      refine r_iload_n (pc := 144) dX11_of_144 rfl ?_
      refine rj_bipush (pc := 145) dX11_of_145 (by decide +kernel) ?_
      refine rj_iconst (pc := 147) dX11_of_147 ?_
      refine r_callS3 (pc := 148) dX11_of_148 qX11_ofTask kX11_58 sX11_ofTask (Nat.le_of_ble_eq_true rfl) (m_ofTask (d + 32)) (fun v_148 h_148 q_148 => ?_)
      obtain ⟨rfl, rfl⟩ := q_148
      refine rj_iald (pc := 151) (j := (1616 + 72 * t).toNat) dX11_of_151 (by first | exact isM.g0 (by assumption) | exact isM.g3 (by assumption) | exact isM.g4 (by assumption) | exact isM.g8 (by assumption) | exact isM.g7 (by assumption) | exact isM.g6 (by assumption) | exact isM.g5 (by assumption) | exact isM.g1 (by assumption) | exact isM.g2 (by assumption)) (by first | assumption | exact b01_r | exact bz_r | omega | (constructor <;> omega) | exact hM _ | exact hPo _ | exact hTa _ | exact hRo _) (by first | assumption | exact b01_r | exact bz_r | omega | (constructor <;> omega) | exact hM _ | exact hPo _ | exact hTa _ | exact hRo _) (by first | assumption | exact b01_r | exact bz_r | omega | (constructor <;> omega) | exact hM _ | exact hPo _ | exact hTa _ | exact hRo _) (by omega) ?_
      refine r_aload_n (pc := 152) dX11_of_152 rfl (by first | rfl | exact isRefV_rf _) ?_
      refine rm_getf (pc := 153) dX11_of_153 fX11_11 (by assumption) rfl ?_
      refine r_iload_n (pc := 156) dX11_of_156 rfl ?_
      refine rj_bipush (pc := 157) dX11_of_157 (by decide +kernel) ?_
      refine rj_iconst (pc := 159) dX11_of_159 ?_
      refine r_callS3 (pc := 160) dX11_of_160 qX11_ofTask kX11_58 sX11_ofTask (Nat.le_of_ble_eq_true rfl) (m_ofTask (d + 32)) (fun v_160 h_160 q_160 => ?_)
      obtain ⟨rfl, rfl⟩ := q_160
      refine rj_iald (pc := 163) (j := (1617 + 72 * t).toNat) dX11_of_163 (by first | exact isM.g0 (by assumption) | exact isM.g3 (by assumption) | exact isM.g4 (by assumption) | exact isM.g8 (by assumption) | exact isM.g7 (by assumption) | exact isM.g6 (by assumption) | exact isM.g5 (by assumption) | exact isM.g1 (by assumption) | exact isM.g2 (by assumption)) (by first | assumption | exact b01_r | exact bz_r | omega | (constructor <;> omega) | exact hM _ | exact hPo _ | exact hTa _ | exact hRo _) (by first | assumption | exact b01_r | exact bz_r | omega | (constructor <;> omega) | exact hM _ | exact hPo _ | exact hTa _ | exact hRo _) (by first | assumption | exact b01_r | exact bz_r | omega | (constructor <;> omega) | exact hM _ | exact hPo _ | exact hTa _ | exact hRo _) (by omega) ?_
      refine r_callV2 (pc := 164) dX11_of_164 qX11_stepsIn kX11_226 vX11_stepsIn (by exact isM.gx (by assumption)) rfl rfl (Nat.le_of_ble_eq_true rfl) (m_stepsInS d hB0 hT.2.2 hT.1 hT.2.1 h11) (fun v_164 h_164 q_164 => ?_)
      obtain ⟨rfl, hB_164, hS_164⟩ := q_164
      refine r_ireturn (pc := 167) .int dX11_of_167 rfl (by first | rfl | assumption) ?_
      exact ⟨by unfold ofV; rw [if_pos c_5, if_neg e_11_0, if_neg e_11_1, if_neg e_11_2, if_neg e_11_3, if_neg e_11_4, if_neg e_11_5, if_neg e_11_6, if_pos e_11_7], hB_164, hS_164⟩
    have eo_11 : off_11 = 157 := by
      rw [← ho_11]
      unfold tswOff
      rw [if_pos (by omega)]
    obtain rfl : tgt_11 = 168 := by omega
    refine rj_iconst (pc := 168) dX11_of_168 ?_
    refine r_ireturn (pc := 169) .int dX11_of_169 rfl (by first | rfl | assumption) ?_
    exact ⟨by unfold ofV; rw [if_pos c_5, if_neg e_11_0, if_neg e_11_1, if_neg e_11_2, if_neg e_11_3, if_neg e_11_4, if_neg e_11_5, if_neg e_11_6, if_neg e_11_7], ⟨_, _, _, _, _, _, _, h11, hB0⟩, Same.refl⟩
  · try simp only [b01_0, bz_0, Classical.not_not] at c_5
    refine rj_iconst (pc := 8) dX11_of_8 ?_
    refine r_ireturn (pc := 9) .int dX11_of_9 rfl (by first | rfl | assumption) ?_
    exact ⟨by unfold ofV; rw [if_neg c_5], ⟨_, _, _, _, _, _, _, h11, hB0⟩, Same.refl⟩
end mg_45

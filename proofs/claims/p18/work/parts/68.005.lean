section mg_69
set_option maxHeartbeats 4000000 in
set_option maxRecDepth 100000 in
theorem L_closed {G : mG} {l : Launch} {D : Nat} {h : mH} {x s : Nat} {f4 f6 f8 f9 f10 f11 f12 f13 f14 f16 f18 : Int} {m kp was pool tape pln pap rwd rw : Nat → Int}(hB : isM h x (mFs x f4 f6 f8 f9 f10 f11 f12 f13 f14 f16 f18 s) m kp was pool tape pln pap rwd rw) {t : Nat} (ht : t ≤ 89) (h2 : 0 ≤ m 2 ∧ m 2 ≤ 89) {f p e : Int} : RUN G l (D + 1) mX11_closes 98 [some (.ref x), some (.int (J (t : Int))), some (.int (J f)), some (.int (J p)), some (.int (J e))] [] h (fun v h' => v = none ∧ isM h' x (mFs x f4 f6 f8 f9 f10 f11 f12 f13 f14 f16 f18 s) (closedM m t) kp was pool tape pln pap rwd rw ∧ Same (mBlk x) h h') := by
  dsimp only [mFs] at hB
  have e1 : updI m (258 + 14 * t) 2 2 = m 2 := updI_n (by omega)
  have e2 : updI (updI m (258 + 14 * t) 2) (264 + 14 * t) (m 2) 2 = m 2 := (updI_n (by omega)).trans e1
  have e3 : updI (updI (updI m (258 + 14 * t) 2) (264 + 14 * t) (m 2)) (1518 + m 2).toNat t 2 = m 2 := (updI_n (by omega)).trans e2
  refine r_aload_n (pc := 98) dX11_closes_98 rfl (by first | rfl | exact isRefV_rf _) ?_
  refine rm_getf (pc := 99) dX11_closes_99 fX11_11 (by assumption) rfl ?_
  refine r_iload_n (pc := 102) dX11_closes_102 rfl ?_
  refine rj_iconst (pc := 103) dX11_closes_103 ?_
  refine rj_iconst (pc := 104) dX11_closes_104 ?_
  refine r_callS3 (pc := 105) dX11_closes_105 qX11_ofThing kX11_54 sX11_ofThing (Nat.le_of_ble_eq_true rfl) (m_ofThing D) (fun v_105 h_105 q_105 => ?_)
  obtain ⟨rfl, rfl⟩ := q_105
  refine rj_iconst (pc := 108) dX11_closes_108 ?_
  first | refine rm_iast0 (pc := 109) (j := 258 + 14 * t) dX11_closes_109 (by assumption) (by first | assumption | exact b01_r | exact bz_r | omega | (constructor <;> omega) | exact hM _ | exact hPo _ | exact hTa _ | exact hRo _) (by first | assumption | exact b01_r | exact bz_r | omega | (constructor <;> omega) | exact hM _ | exact hPo _ | exact hTa _ | exact hRo _) (by first | assumption | exact b01_r | exact bz_r | omega | (constructor <;> omega) | exact hM _ | exact hPo _ | exact hTa _ | exact hRo _) (by omega) (fun h_109 hB_109 hS_109 => ?_)
  refine r_aload_n (pc := 110) dX11_closes_110 rfl (by first | rfl | exact isRefV_rf _) ?_
  refine rm_getf (pc := 111) dX11_closes_111 fX11_11 (by assumption) rfl ?_
  refine r_iload_n (pc := 114) dX11_closes_114 rfl ?_
  refine rj_bipush (pc := 115) dX11_closes_115 (by decide +kernel) ?_
  refine rj_iconst (pc := 117) dX11_closes_117 ?_
  refine r_callS3 (pc := 118) dX11_closes_118 qX11_ofThing kX11_54 sX11_ofThing (Nat.le_of_ble_eq_true rfl) (m_ofThing D) (fun v_118 h_118 q_118 => ?_)
  obtain ⟨rfl, rfl⟩ := q_118
  refine r_aload_n (pc := 121) dX11_closes_121 rfl (by first | rfl | exact isRefV_rf _) ?_
  refine rm_getf (pc := 122) dX11_closes_122 fX11_11 (by assumption) rfl ?_
  refine rj_iconst (pc := 125) dX11_closes_125 ?_
  refine rj_iald (pc := 126) (j := 2) dX11_closes_126 (by first | exact isM.g0 (by assumption) | exact isM.g3 (by assumption) | exact isM.g4 (by assumption) | exact isM.g8 (by assumption) | exact isM.g7 (by assumption) | exact isM.g6 (by assumption) | exact isM.g5 (by assumption) | exact isM.g1 (by assumption) | exact isM.g2 (by assumption)) (by first | assumption | exact b01_r | exact bz_r | omega | (constructor <;> omega) | exact hM _ | exact hPo _ | exact hTa _ | exact hRo _) (by first | assumption | exact b01_r | exact bz_r | omega | (constructor <;> omega) | exact hM _ | exact hPo _ | exact hTa _ | exact hRo _) (by first | assumption | exact b01_r | exact bz_r | omega | (constructor <;> omega) | exact hM _ | exact hPo _ | exact hTa _ | exact hRo _) rfl ?_
  rw [e1]
  first | refine rm_iast0 (pc := 127) (j := 264 + 14 * t) dX11_closes_127 (by assumption) (by first | assumption | exact b01_r | exact bz_r | omega | (constructor <;> omega) | exact hM _ | exact hPo _ | exact hTa _ | exact hRo _) (by first | assumption | exact b01_r | exact bz_r | omega | (constructor <;> omega) | exact hM _ | exact hPo _ | exact hTa _ | exact hRo _) (by first | assumption | exact b01_r | exact bz_r | omega | (constructor <;> omega) | exact hM _ | exact hPo _ | exact hTa _ | exact hRo _) (by omega) (fun h_127 hB_127 hS_127 => ?_)
  refine r_aload_n (pc := 128) dX11_closes_128 rfl (by first | rfl | exact isRefV_rf _) ?_
  refine rm_getf (pc := 129) dX11_closes_129 fX11_11 (by assumption) rfl ?_
  refine rj_sipush (pc := 132) dX11_closes_132 (by decide +kernel) ?_
  refine r_aload_n (pc := 135) dX11_closes_135 rfl (by first | rfl | exact isRefV_rf _) ?_
  refine rm_getf (pc := 136) dX11_closes_136 fX11_11 (by assumption) rfl ?_
  refine rj_iconst (pc := 139) dX11_closes_139 ?_
  refine rj_iald (pc := 140) (j := 2) dX11_closes_140 (by first | exact isM.g0 (by assumption) | exact isM.g3 (by assumption) | exact isM.g4 (by assumption) | exact isM.g8 (by assumption) | exact isM.g7 (by assumption) | exact isM.g6 (by assumption) | exact isM.g5 (by assumption) | exact isM.g1 (by assumption) | exact isM.g2 (by assumption)) (by first | assumption | exact b01_r | exact bz_r | omega | (constructor <;> omega) | exact hM _ | exact hPo _ | exact hTa _ | exact hRo _) (by first | assumption | exact b01_r | exact bz_r | omega | (constructor <;> omega) | exact hM _ | exact hPo _ | exact hTa _ | exact hRo _) (by first | assumption | exact b01_r | exact bz_r | omega | (constructor <;> omega) | exact hM _ | exact hPo _ | exact hTa _ | exact hRo _) rfl ?_
  rw [e2]
  refine rj_iadd (pc := 141) dX11_closes_141 ?_
  refine r_iload_n (pc := 142) dX11_closes_142 rfl ?_
  first | refine rm_iast0 (pc := 143) (j := (1518 + m 2).toNat) dX11_closes_143 (by assumption) (by first | assumption | exact b01_r | exact bz_r | omega | (constructor <;> omega) | exact hM _ | exact hPo _ | exact hTa _ | exact hRo _) (by first | assumption | exact b01_r | exact bz_r | omega | (constructor <;> omega) | exact hM _ | exact hPo _ | exact hTa _ | exact hRo _) (by first | assumption | exact b01_r | exact bz_r | omega | (constructor <;> omega) | exact hM _ | exact hPo _ | exact hTa _ | exact hRo _) (by omega) (fun h_143 hB_143 hS_143 => ?_)
  refine r_aload_n (pc := 144) dX11_closes_144 rfl (by first | rfl | exact isRefV_rf _) ?_
  refine rm_getf (pc := 145) dX11_closes_145 fX11_11 (by assumption) rfl ?_
  refine rj_iconst (pc := 148) dX11_closes_148 ?_
  refine r_dup2 (pc := 149) dX11_closes_149 rfl rfl ?_
  refine rj_iald (pc := 150) (j := 2) dX11_closes_150 (by first | exact isM.g0 (by assumption) | exact isM.g3 (by assumption) | exact isM.g4 (by assumption) | exact isM.g8 (by assumption) | exact isM.g7 (by assumption) | exact isM.g6 (by assumption) | exact isM.g5 (by assumption) | exact isM.g1 (by assumption) | exact isM.g2 (by assumption)) (by first | assumption | exact b01_r | exact bz_r | omega | (constructor <;> omega) | exact hM _ | exact hPo _ | exact hTa _ | exact hRo _) (by first | assumption | exact b01_r | exact bz_r | omega | (constructor <;> omega) | exact hM _ | exact hPo _ | exact hTa _ | exact hRo _) (by first | assumption | exact b01_r | exact bz_r | omega | (constructor <;> omega) | exact hM _ | exact hPo _ | exact hTa _ | exact hRo _) (by omega) ?_
  rw [e3]
  refine rj_iconst (pc := 151) dX11_closes_151 ?_
  refine rj_iadd (pc := 152) dX11_closes_152 ?_
  first | refine rm_iast0 (pc := 153) (j := 2) dX11_closes_153 (by assumption) (by first | assumption | exact b01_r | exact bz_r | omega | (constructor <;> omega) | exact hM _ | exact hPo _ | exact hTa _ | exact hRo _) (by first | assumption | exact b01_r | exact bz_r | omega | (constructor <;> omega) | exact hM _ | exact hPo _ | exact hTa _ | exact hRo _) (by first | assumption | exact b01_r | exact bz_r | omega | (constructor <;> omega) | exact hM _ | exact hPo _ | exact hTa _ | exact hRo _) (by omega) (fun h_153 hB_153 hS_153 => ?_)
  refine r_return (pc := 154) dX11_closes_154 rfl ?_
  exact ⟨rfl, hB_153, ((hS_109.trans hS_127).trans hS_143).trans hS_153⟩
end mg_69

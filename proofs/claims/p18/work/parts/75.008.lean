section mg_75
set_option maxHeartbeats 4000000 in
set_option maxRecDepth 100000 in
theorem L_taskT {G : mG} {l : Launch} {x s : Nat} {f4 f6 f8 f9 f10 f11 f12 f13 f14 f16 f18 : Int} {m kp was pool tape pln pap rwd rw : Nat → Int} {h : mH} {len : Nat} (hB : isM h x (mFs x f4 f6 f8 f9 f10 f11 f12 f13 f14 f16 f18 s) (zrF (updI m 3 (m 3 + 1)) (1608 + 72 * (m 3).toNat) 72) kp was pool tape pln pap rwd rw) (hTa : ∀ q, InR (tape q)) (hl : len ≤ 120) (h8 : 0 ≤ m 8 ∧ m 8 + 130 ≤ 12342) (h0 : 0 ≤ m 0 ∧ m 0 ≤ 59) (h3 : 0 ≤ m 3 ∧ m 3 ≤ 9) {a b : Int} {Q : Option Value → mH → Prop} (K : ∀ h1, isM h1 x (mFs x f4 f6 f8 f9 f10 f11 f12 f13 f14 f16 f18 s) (newTaskM m a b len) kp was (pooledP pool tape (m 8).toNat 0 len) tape pln pap rwd rw → Same (mBlk x) h h1 → Q (some (.int (J (m 3)))) h1) : RUN G l 40 mX11_task 152 [some (.ref x), some (.int (J a)), some (.int (J b)), some (.int (J (len : Int))), some (.int (J (m 3))), some (.int (J 72))] [] h Q := by
  have hB0 := hB
  have zz8 : (zrF (updI m 3 (m 3 + 1)) (1608 + 72 * (m 3).toNat) 72) 8 = m 8 := by unfold zrF; rw [if_neg (by omega), updI_n (by decide)]
  have zz0 : (updI (zrF (updI m 3 (m 3 + 1)) (1608 + 72 * (m 3).toNat) 72) 8 (m 8 + (len : Nat) + 1)) 0 = m 0 := by rw [updI_n (by decide)]; unfold zrF; rw [if_neg (by omega), updI_n (by decide)]
  have zo : (updI (updI (updI (updI (updI (updI (opensM (updI (zrF (updI m 3 (m 3 + 1)) (1608 + 72 * (m 3).toNat) 72) 8 (m 8 + (len : Nat) + 1)) (m 0).toNat a (m 3)) (1608 + 72 * (m 3).toNat) (m 0)) (1609 + 72 * (m 3).toNat) b) (1611 + 72 * (m 3).toNat) (m 8)) (1616 + 72 * (m 3).toNat) (m 8)) (1617 + 72 * (m 3).toNat) (m 8 + len)) (1619 + 72 * (m 3).toNat) 1) (1608 + 72 * (m 3).toNat) = m 0 := by rw [updI_n (by omega), updI_n (by omega), updI_n (by omega), updI_n (by omega), updI_n (by omega), updI_s]
  dsimp only [mFs] at hB
  refine r_aload_n (pc := 152) dX11_task_152 rfl (by first | rfl | exact isRefV_rf _) ?_
  refine rj_iconst (pc := 153) dX11_task_153 ?_
  refine r_iload_n (pc := 154) dX11_task_154 rfl ?_
  refine r_callV2 (pc := 155) dX11_task_155 qX11_pooled kX11_220 vX11_pooled (by exact isM.gx (by assumption)) rfl rfl (Nat.le_of_ble_eq_true rfl) (by have y := m_pooled (G := G) (l := l) 0 hB0 (a := 0) (b := len) (p := (m 8).toNat) hTa (by omega) (by omega) (by omega) (by rw [zz8]; omega); exact y.deeper (by omega)) (fun v_155 h_155 q_155 => ?_)
  obtain ⟨rfl, hB_155, S_155⟩ := q_155
  have hC_155 : isM h_155 x (mFs x f4 f6 f8 f9 f10 f11 f12 f13 f14 f16 f18 s) (updI (zrF (updI m 3 (m 3 + 1)) (1608 + 72 * (m 3).toNat) 72) 8 (m 8 + (len : Nat) + 1)) kp was (pooledP pool tape (m 8).toNat 0 len) tape pln pap rwd rw := by rw [show m 8 + (len : Int) + 1 = ((m 8).toNat : Int) + ((len - 0 : Nat) : Int) + 1 by omega]; exact hB_155
  refine r_istore (pc := 158) dX11_task_158 (Nat.le_of_ble_eq_true rfl) ?_
  dsimp only [lsSt, List.set, mLs, mEnt]
  rw [show (((m 8).toNat : Nat) : Int) = m 8 by omega]
  refine r_aload_n (pc := 160) dX11_task_160 rfl (by first | rfl | exact isRefV_rf _) ?_
  refine rm_getf (pc := 161) dX11_task_161 fX11_11 (by assumption) rfl ?_
  refine r_iload (pc := 164) dX11_task_164 rfl ?_
  refine rj_iconst (pc := 166) dX11_task_166 ?_
  refine rj_iconst (pc := 167) dX11_task_167 ?_
  refine r_callS3 (pc := 168) dX11_task_168 qX11_ofTask kX11_58 sX11_ofTask (Nat.le_of_ble_eq_true rfl) (m_ofTask _) (fun v_168 h_168 q_168 => ?_)
  obtain ⟨rfl, rfl⟩ := q_168
  refine r_aload_n (pc := 171) dX11_task_171 rfl (by first | rfl | exact isRefV_rf _) ?_
  refine r_iload_n (pc := 172) dX11_task_172 rfl ?_
  refine r_iload (pc := 173) dX11_task_173 rfl ?_
  refine r_callV2 (pc := 175) dX11_task_175 qX11_opens kX11_186 vX11_opens (by exact isM.gx (by assumption)) rfl rfl (Nat.le_of_ble_eq_true rfl) (by have y := m_opens (G := G) (l := l) 0 hC_155 (C := (m 0).toNat) (by rw [zz0]; omega) (by omega) (p := a) (t := m 3); exact y.deeper (by omega)) (fun v_175 h_175 q_175 => ?_)
  obtain ⟨rfl, hB_175, S_175⟩ := q_175
  rw [show (((m 0).toNat : Nat) : Int) = m 0 by omega]
  first | refine rm_iast0 (pc := 178) (j := 1608 + 72 * (m 3).toNat) dX11_task_178 (by assumption) (by first | assumption | exact b01_r | exact bz_r | omega | (constructor <;> omega) | exact hM _ | exact hPo _ | exact hTa _ | exact hRo _) (by first | assumption | exact b01_r | exact bz_r | omega | (constructor <;> omega) | exact hM _ | exact hPo _ | exact hTa _ | exact hRo _) (by first | assumption | exact b01_r | exact bz_r | omega | (constructor <;> omega) | exact hM _ | exact hPo _ | exact hTa _ | exact hRo _) (by omega) (fun h_178 hB_178 hS_178 => ?_)
  refine r_aload_n (pc := 179) dX11_task_179 rfl (by first | rfl | exact isRefV_rf _) ?_
  refine rm_getf (pc := 180) dX11_task_180 fX11_11 (by assumption) rfl ?_
  refine r_iload (pc := 183) dX11_task_183 rfl ?_
  refine rj_iconst (pc := 185) dX11_task_185 ?_
  refine rj_iconst (pc := 186) dX11_task_186 ?_
  refine r_callS3 (pc := 187) dX11_task_187 qX11_ofTask kX11_58 sX11_ofTask (Nat.le_of_ble_eq_true rfl) (m_ofTask _) (fun v_187 h_187 q_187 => ?_)
  obtain ⟨rfl, rfl⟩ := q_187
  refine r_iload_n (pc := 190) dX11_task_190 rfl ?_
  first | refine rm_iast0 (pc := 191) (j := 1609 + 72 * (m 3).toNat) dX11_task_191 (by assumption) (by first | assumption | exact b01_r | exact bz_r | omega | (constructor <;> omega) | exact hM _ | exact hPo _ | exact hTa _ | exact hRo _) (by first | assumption | exact b01_r | exact bz_r | omega | (constructor <;> omega) | exact hM _ | exact hPo _ | exact hTa _ | exact hRo _) (by first | assumption | exact b01_r | exact bz_r | omega | (constructor <;> omega) | exact hM _ | exact hPo _ | exact hTa _ | exact hRo _) (by omega) (fun h_191 hB_191 hS_191 => ?_)
  refine r_aload_n (pc := 192) dX11_task_192 rfl (by first | rfl | exact isRefV_rf _) ?_
  refine rm_getf (pc := 193) dX11_task_193 fX11_11 (by assumption) rfl ?_
  refine r_iload (pc := 196) dX11_task_196 rfl ?_
  refine rj_iconst (pc := 198) dX11_task_198 ?_
  refine rj_iconst (pc := 199) dX11_task_199 ?_
  refine r_callS3 (pc := 200) dX11_task_200 qX11_ofTask kX11_58 sX11_ofTask (Nat.le_of_ble_eq_true rfl) (m_ofTask _) (fun v_200 h_200 q_200 => ?_)
  obtain ⟨rfl, rfl⟩ := q_200
  refine r_iload (pc := 203) dX11_task_203 rfl ?_
  first | refine rm_iast0 (pc := 205) (j := 1611 + 72 * (m 3).toNat) dX11_task_205 (by assumption) (by first | assumption | exact b01_r | exact bz_r | omega | (constructor <;> omega) | exact hM _ | exact hPo _ | exact hTa _ | exact hRo _) (by first | assumption | exact b01_r | exact bz_r | omega | (constructor <;> omega) | exact hM _ | exact hPo _ | exact hTa _ | exact hRo _) (by first | assumption | exact b01_r | exact bz_r | omega | (constructor <;> omega) | exact hM _ | exact hPo _ | exact hTa _ | exact hRo _) (by omega) (fun h_205 hB_205 hS_205 => ?_)
  refine r_aload_n (pc := 206) dX11_task_206 rfl (by first | rfl | exact isRefV_rf _) ?_
  refine rm_getf (pc := 207) dX11_task_207 fX11_11 (by assumption) rfl ?_
  refine r_iload (pc := 210) dX11_task_210 rfl ?_
  refine rj_bipush (pc := 212) dX11_task_212 (by decide +kernel) ?_
  refine rj_iconst (pc := 214) dX11_task_214 ?_
  refine r_callS3 (pc := 215) dX11_task_215 qX11_ofTask kX11_58 sX11_ofTask (Nat.le_of_ble_eq_true rfl) (m_ofTask _) (fun v_215 h_215 q_215 => ?_)
  obtain ⟨rfl, rfl⟩ := q_215
  refine r_iload (pc := 218) dX11_task_218 rfl ?_
  first | refine rm_iast0 (pc := 220) (j := 1616 + 72 * (m 3).toNat) dX11_task_220 (by assumption) (by first | assumption | exact b01_r | exact bz_r | omega | (constructor <;> omega) | exact hM _ | exact hPo _ | exact hTa _ | exact hRo _) (by first | assumption | exact b01_r | exact bz_r | omega | (constructor <;> omega) | exact hM _ | exact hPo _ | exact hTa _ | exact hRo _) (by first | assumption | exact b01_r | exact bz_r | omega | (constructor <;> omega) | exact hM _ | exact hPo _ | exact hTa _ | exact hRo _) (by omega) (fun h_220 hB_220 hS_220 => ?_)
  refine r_aload_n (pc := 221) dX11_task_221 rfl (by first | rfl | exact isRefV_rf _) ?_
  refine rm_getf (pc := 222) dX11_task_222 fX11_11 (by assumption) rfl ?_
  refine r_iload (pc := 225) dX11_task_225 rfl ?_
  refine rj_bipush (pc := 227) dX11_task_227 (by decide +kernel) ?_
  refine rj_iconst (pc := 229) dX11_task_229 ?_
  refine r_callS3 (pc := 230) dX11_task_230 qX11_ofTask kX11_58 sX11_ofTask (Nat.le_of_ble_eq_true rfl) (m_ofTask _) (fun v_230 h_230 q_230 => ?_)
  obtain ⟨rfl, rfl⟩ := q_230
  refine r_iload (pc := 233) dX11_task_233 rfl ?_
  refine r_iload_n (pc := 235) dX11_task_235 rfl ?_
  refine rj_iadd (pc := 236) dX11_task_236 ?_
  first | refine rm_iast0 (pc := 237) (j := 1617 + 72 * (m 3).toNat) dX11_task_237 (by assumption) (by first | assumption | exact b01_r | exact bz_r | omega | (constructor <;> omega) | exact hM _ | exact hPo _ | exact hTa _ | exact hRo _) (by first | assumption | exact b01_r | exact bz_r | omega | (constructor <;> omega) | exact hM _ | exact hPo _ | exact hTa _ | exact hRo _) (by first | assumption | exact b01_r | exact bz_r | omega | (constructor <;> omega) | exact hM _ | exact hPo _ | exact hTa _ | exact hRo _) (by omega) (fun h_237 hB_237 hS_237 => ?_)
  refine r_aload_n (pc := 238) dX11_task_238 rfl (by first | rfl | exact isRefV_rf _) ?_
  refine rm_getf (pc := 239) dX11_task_239 fX11_11 (by assumption) rfl ?_
  refine r_iload (pc := 242) dX11_task_242 rfl ?_
  refine rj_bipush (pc := 244) dX11_task_244 (by decide +kernel) ?_
  refine rj_iconst (pc := 246) dX11_task_246 ?_
  refine r_callS3 (pc := 247) dX11_task_247 qX11_ofTask kX11_58 sX11_ofTask (Nat.le_of_ble_eq_true rfl) (m_ofTask _) (fun v_247 h_247 q_247 => ?_)
  obtain ⟨rfl, rfl⟩ := q_247
  refine rj_iconst (pc := 250) dX11_task_250 ?_
  first | refine rm_iast0 (pc := 251) (j := 1619 + 72 * (m 3).toNat) dX11_task_251 (by assumption) (by first | assumption | exact b01_r | exact bz_r | omega | (constructor <;> omega) | exact hM _ | exact hPo _ | exact hTa _ | exact hRo _) (by first | assumption | exact b01_r | exact bz_r | omega | (constructor <;> omega) | exact hM _ | exact hPo _ | exact hTa _ | exact hRo _) (by first | assumption | exact b01_r | exact bz_r | omega | (constructor <;> omega) | exact hM _ | exact hPo _ | exact hTa _ | exact hRo _) (by omega) (fun h_251 hB_251 hS_251 => ?_)
  refine r_aload_n (pc := 252) dX11_task_252 rfl (by first | rfl | exact isRefV_rf _) ?_
  refine rm_getf (pc := 253) dX11_task_253 fX11_11 (by assumption) rfl ?_
  refine r_iload (pc := 256) dX11_task_256 rfl ?_
  refine rj_bipush (pc := 258) dX11_task_258 (by decide +kernel) ?_
  refine rj_iconst (pc := 260) dX11_task_260 ?_
  refine r_callS3 (pc := 261) dX11_task_261 qX11_ofTask kX11_58 sX11_ofTask (Nat.le_of_ble_eq_true rfl) (m_ofTask _) (fun v_261 h_261 q_261 => ?_)
  obtain ⟨rfl, rfl⟩ := q_261
  refine r_aload_n (pc := 264) dX11_task_264 rfl (by first | rfl | exact isRefV_rf _) ?_
  refine rm_getf (pc := 265) dX11_task_265 fX11_11 (by assumption) rfl ?_
  refine r_iload (pc := 268) dX11_task_268 rfl ?_
  refine rj_iconst (pc := 270) dX11_task_270 ?_
  refine rj_iconst (pc := 271) dX11_task_271 ?_
  refine r_callS3 (pc := 272) dX11_task_272 qX11_ofTask kX11_58 sX11_ofTask (Nat.le_of_ble_eq_true rfl) (m_ofTask _) (fun v_272 h_272 q_272 => ?_)
  obtain ⟨rfl, rfl⟩ := q_272
  refine rj_iald (pc := 275) (j := 1608 + 72 * (m 3).toNat) dX11_task_275 (by first | exact isM.g0 (by assumption) | exact isM.g3 (by assumption) | exact isM.g4 (by assumption) | exact isM.g8 (by assumption) | exact isM.g7 (by assumption) | exact isM.g6 (by assumption) | exact isM.g5 (by assumption) | exact isM.g1 (by assumption) | exact isM.g2 (by assumption)) (by first | assumption | exact b01_r | exact bz_r | omega | (constructor <;> omega) | exact hM _ | exact hPo _ | exact hTa _ | exact hRo _) (by first | assumption | exact b01_r | exact bz_r | omega | (constructor <;> omega) | exact hM _ | exact hPo _ | exact hTa _ | exact hRo _) (by first | assumption | exact b01_r | exact bz_r | omega | (constructor <;> omega) | exact hM _ | exact hPo _ | exact hTa _ | exact hRo _) (by omega) ?_
  rw [zo]
  first | refine rm_iast0 (pc := 276) (j := 1620 + 72 * (m 3).toNat) dX11_task_276 (by assumption) (by first | assumption | exact b01_r | exact bz_r | omega | (constructor <;> omega) | exact hM _ | exact hPo _ | exact hTa _ | exact hRo _) (by first | assumption | exact b01_r | exact bz_r | omega | (constructor <;> omega) | exact hM _ | exact hPo _ | exact hTa _ | exact hRo _) (by first | assumption | exact b01_r | exact bz_r | omega | (constructor <;> omega) | exact hM _ | exact hPo _ | exact hTa _ | exact hRo _) (by omega) (fun h_276 hB_276 hS_276 => ?_)
  refine r_iload (pc := 277) dX11_task_277 rfl ?_
  refine r_ireturn (pc := 279) .int dX11_task_279 rfl (by first | rfl | assumption) ?_
  exact K _ hB_276 ((((((((S_155.trans S_175).trans hS_178).trans hS_191).trans hS_205).trans hS_220).trans hS_237).trans hS_251).trans hS_276)
end mg_75

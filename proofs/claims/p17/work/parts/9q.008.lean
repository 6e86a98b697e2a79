set_option maxHeartbeats 4000000 in
set_option maxRecDepth 100000 in
theorem rk_if {G : mG} {l : Launch} (d : Nat) {h : mH} {a st : Nat} {s : Int × Int} {o z br gd kd : Int} {f : Nat → Int} {y0 : Int64} {n0 v0 : Int} {i0 nx : Option Nat} (hD : isRd h a s.1 s.2 o z f) (hs : rgS z s) (ho : InR o) (hz : 0 ≤ z ∧ z ≤ 120) (hf : bytesOk f) (hst : ¬ dBlk a st) (hlo : h.1 ≤ st) (hO : hGet h st = some (stO kd n0 v0 y0 i0 nx)) {R : Option Nat → mH → Prop} (P : ∀ (h1 : mH), isRd h1 a (xpM z f 58 (vlM z f (xpM z f 60 (fgM z f 8 s)))).1 (xpM z f 58 (vlM z f (xpM z f 60 (fgM z f 8 s)))).2 o z f → hGet h1 st = some (stO kd (fgU z f 8 s.1) (rvV (xpM z f 60 (fgM z f 8 s)).1 z f) y0 i0 nx) → Same (fun b => dBlk a b ∨ b = st) h h1 → RUNM G l (d + 2) mX2_readStep [.ref a, .int (J br), .int (J 1)] h1 (fun v h' => ∃ r, v = some (va_rf r) ∧ R r h')) (hR : ∀ r h2, R r h2 → hGet h2 st = some (stO kd (fgU z f 8 s.1) (rvV (xpM z f 60 (fgM z f 8 s)).1 z f) y0 i0 nx) ∧ h2.1 ≤ st) : RUN G l (d + 3) mX2_readStep 245 [some (.ref a), some (.int (J br)), some (.int (J gd)), some (.int (J kd)), some (.ref st)] [] h (fun v h' => v = some (.ref st) ∧ ∃ r h2, R r h2 ∧ hGet h' st = some (stO kd (fgU z f 8 s.1) (rvV (xpM z f 60 (fgM z f 8 s)).1 z f) y0 r nx) ∧ Same (fun b => b = st) h2 h') := by
  refine r_aload (pc := 245) dX2_readStep_245 rfl (by first | rfl | exact isRefV_rf _) ?_
  refine r_aload_n (pc := 247) dX2_readStep_247 rfl (by first | rfl | exact isRefV_rf _) ?_
  refine rj_bipush (pc := 248) dX2_readStep_248 (by decide +kernel) ?_
  refine r_callV1 (pc := 250) dX2_readStep_250 qX2_readFigure kX2_80 vX2_readFigure (by first | assumption | exact isI.gx (by assumption) | exact isI.gc (by assumption) | exact isW.gx (by assumption) | exact isW.gF (by assumption) | exact isW.gT (by assumption) (by omega) | exact isW.gS (by assumption) (by omega) | exact isW.gK (by assumption) (by omega) | exact isW.g1 (by assumption) | exact isW.g2 (by assumption) | exact isW.g3 (by assumption) | exact isI.gx (isW.i0 (by assumption)) | exact isI.gc (isW.i0 (by assumption)) | exact isI.gx (isW.i1 (by assumption)) | exact isI.gc (isW.i1 (by assumption)) | exact isI.gx (isW.i2 (by assumption)) | exact isI.gc (isW.i2 (by assumption)) | exact isI.gx (isW.i3 (by assumption)) | exact isI.gc (isW.i3 (by assumption)) | exact isI.gx (isW.i4 (by assumption)) | exact isI.gc (isW.i4 (by assumption)) | exact isI.gx (isW.i5 (by assumption)) | exact isI.gc (isW.i5 (by assumption)) | exact isR.gx (by assumption) | exact isRd.gx (by assumption) | exact isSp.gx (by assumption) | exact isI.gx (isR.i (by assumption)) | exact isI.gx (isRd.i (by assumption)) | exact isI.gc (isRd.i (by assumption)) | exact isI.gx (isSp.i (by assumption)) | exact isW.gx (isR.w (by assumption)) | exact isW.gF (isR.w (by assumption)) | fail "no such object") rfl rfl (Nat.le_of_ble_eq_true rfl) (rm_fig _ hD hs ho hz hf (k := 8) (by decide)) (fun v_250 h_250 q_250 => ?_)
  obtain ⟨rfl, D_250, S_250⟩ := q_250
  have r_250 := fgM_r (f := f) (k := 8) hs hz.2 (by decide)
  have o_250 := S_250.at hst hO
  have e_250 := S_250.1
  have T_250 : Same (fun b => dBlk a b ∨ b = st) h h_250 := S_250.mono (fun _ q => Or.inl q)
  unfold stO at o_250
  refine r_putf (pc := 253) dX2_readStep_253 fX2_84 o_250 (by omega) (by first | rfl | exact narrow_rf _ _) (by first | rfl | exact fits_rf _ _) (Nat.le_of_ble_eq_true rfl) ?_
  dsimp only [List.set]
  refine rg_gen (fun h_253 o_253 s_253 l_253 n_253 k_253 => ?_)
  have D_253 := D_250.keep2 l_253 (fun b hb => s_253 b (fun q => hst (q ▸ hb)))
  have T_253 : Same (fun b => dBlk a b ∨ b = st) h h_253 := T_250.trans ⟨l_253, n_253, k_253, fun b hb => s_253 b (fun q => hb (Or.inr q))⟩
  refine r_aload_n (pc := 256) dX2_readStep_256 rfl (by first | rfl | exact isRefV_rf _) ?_
  refine rj_bipush (pc := 257) dX2_readStep_257 (by decide +kernel) ?_
  refine r_callV1 (pc := 259) dX2_readStep_259 qX2_expect kX2_38 vX2_expect (by first | assumption | exact isI.gx (by assumption) | exact isI.gc (by assumption) | exact isW.gx (by assumption) | exact isW.gF (by assumption) | exact isW.gT (by assumption) (by omega) | exact isW.gS (by assumption) (by omega) | exact isW.gK (by assumption) (by omega) | exact isW.g1 (by assumption) | exact isW.g2 (by assumption) | exact isW.g3 (by assumption) | exact isI.gx (isW.i0 (by assumption)) | exact isI.gc (isW.i0 (by assumption)) | exact isI.gx (isW.i1 (by assumption)) | exact isI.gc (isW.i1 (by assumption)) | exact isI.gx (isW.i2 (by assumption)) | exact isI.gc (isW.i2 (by assumption)) | exact isI.gx (isW.i3 (by assumption)) | exact isI.gc (isW.i3 (by assumption)) | exact isI.gx (isW.i4 (by assumption)) | exact isI.gc (isW.i4 (by assumption)) | exact isI.gx (isW.i5 (by assumption)) | exact isI.gc (isW.i5 (by assumption)) | exact isR.gx (by assumption) | exact isRd.gx (by assumption) | exact isSp.gx (by assumption) | exact isI.gx (isR.i (by assumption)) | exact isI.gx (isRd.i (by assumption)) | exact isI.gc (isRd.i (by assumption)) | exact isI.gx (isSp.i (by assumption)) | exact isW.gx (isR.w (by assumption)) | exact isW.gF (isR.w (by assumption)) | fail "no such object") rfl rfl (Nat.le_of_ble_eq_true rfl) (rm_exp _ D_253 r_250 ho hz hf (k := 60) (by decide)) (fun v_259 h_259 q_259 => ?_)
  obtain ⟨rfl, D_259, S_259⟩ := q_259
  have r_259 := xpM_r (f := f) (k := 60) r_250 hz.2 (by decide)
  have o_259 := S_259.at hst o_253
  have e_259 := S_259.1
  have T_259 : Same (fun b => dBlk a b ∨ b = st) h h_259 := T_253.trans (S_259.mono (fun _ q => Or.inl q))
  refine r_aload (pc := 262) dX2_readStep_262 rfl (by first | rfl | exact isRefV_rf _) ?_
  refine r_aload_n (pc := 264) dX2_readStep_264 rfl (by first | rfl | exact isRefV_rf _) ?_
  refine r_callV0 (pc := 265) dX2_readStep_265 qX2_readValue kX2_87 vX2_readValue (by first | assumption | exact isI.gx (by assumption) | exact isI.gc (by assumption) | exact isW.gx (by assumption) | exact isW.gF (by assumption) | exact isW.gT (by assumption) (by omega) | exact isW.gS (by assumption) (by omega) | exact isW.gK (by assumption) (by omega) | exact isW.g1 (by assumption) | exact isW.g2 (by assumption) | exact isW.g3 (by assumption) | exact isI.gx (isW.i0 (by assumption)) | exact isI.gc (isW.i0 (by assumption)) | exact isI.gx (isW.i1 (by assumption)) | exact isI.gc (isW.i1 (by assumption)) | exact isI.gx (isW.i2 (by assumption)) | exact isI.gc (isW.i2 (by assumption)) | exact isI.gx (isW.i3 (by assumption)) | exact isI.gc (isW.i3 (by assumption)) | exact isI.gx (isW.i4 (by assumption)) | exact isI.gc (isW.i4 (by assumption)) | exact isI.gx (isW.i5 (by assumption)) | exact isI.gc (isW.i5 (by assumption)) | exact isR.gx (by assumption) | exact isRd.gx (by assumption) | exact isSp.gx (by assumption) | exact isI.gx (isR.i (by assumption)) | exact isI.gx (isRd.i (by assumption)) | exact isI.gc (isRd.i (by assumption)) | exact isI.gx (isSp.i (by assumption)) | exact isW.gx (isR.w (by assumption)) | exact isW.gF (isR.w (by assumption)) | fail "no such object") rfl rfl (Nat.le_of_ble_eq_true rfl) (rm_val _ D_259 r_259 ho hz hf) (fun v_265 h_265 q_265 => ?_)
  obtain ⟨rfl, D_265, S_265⟩ := q_265
  have r_265 := vlM_r (f := f) r_259 hz.2
  have o_265 := S_265.at hst o_259
  have e_265 := S_265.1
  have T_265 : Same (fun b => dBlk a b ∨ b = st) h h_265 := T_259.trans (S_265.mono (fun _ q => Or.inl q))
  unfold stO at o_265
  refine r_putf (pc := 268) dX2_readStep_268 fX2_90 o_265 (by omega) (by first | rfl | exact narrow_rf _ _) (by first | rfl | exact fits_rf _ _) (Nat.le_of_ble_eq_true rfl) ?_
  dsimp only [List.set]
  refine rg_gen (fun h_268 o_268 s_268 l_268 n_268 k_268 => ?_)
  have D_268 := D_265.keep2 l_268 (fun b hb => s_268 b (fun q => hst (q ▸ hb)))
  have T_268 : Same (fun b => dBlk a b ∨ b = st) h h_268 := T_265.trans ⟨l_268, n_268, k_268, fun b hb => s_268 b (fun q => hb (Or.inr q))⟩
  refine r_aload_n (pc := 271) dX2_readStep_271 rfl (by first | rfl | exact isRefV_rf _) ?_
  refine rj_bipush (pc := 272) dX2_readStep_272 (by decide +kernel) ?_
  refine r_callV1 (pc := 274) dX2_readStep_274 qX2_expect kX2_38 vX2_expect (by first | assumption | exact isI.gx (by assumption) | exact isI.gc (by assumption) | exact isW.gx (by assumption) | exact isW.gF (by assumption) | exact isW.gT (by assumption) (by omega) | exact isW.gS (by assumption) (by omega) | exact isW.gK (by assumption) (by omega) | exact isW.g1 (by assumption) | exact isW.g2 (by assumption) | exact isW.g3 (by assumption) | exact isI.gx (isW.i0 (by assumption)) | exact isI.gc (isW.i0 (by assumption)) | exact isI.gx (isW.i1 (by assumption)) | exact isI.gc (isW.i1 (by assumption)) | exact isI.gx (isW.i2 (by assumption)) | exact isI.gc (isW.i2 (by assumption)) | exact isI.gx (isW.i3 (by assumption)) | exact isI.gc (isW.i3 (by assumption)) | exact isI.gx (isW.i4 (by assumption)) | exact isI.gc (isW.i4 (by assumption)) | exact isI.gx (isW.i5 (by assumption)) | exact isI.gc (isW.i5 (by assumption)) | exact isR.gx (by assumption) | exact isRd.gx (by assumption) | exact isSp.gx (by assumption) | exact isI.gx (isR.i (by assumption)) | exact isI.gx (isRd.i (by assumption)) | exact isI.gc (isRd.i (by assumption)) | exact isI.gx (isSp.i (by assumption)) | exact isW.gx (isR.w (by assumption)) | exact isW.gF (isR.w (by assumption)) | fail "no such object") rfl rfl (Nat.le_of_ble_eq_true rfl) (rm_exp _ D_268 r_265 ho hz hf (k := 58) (by decide)) (fun v_274 h_274 q_274 => ?_)
  obtain ⟨rfl, D_274, S_274⟩ := q_274
  have r_274 := xpM_r (f := f) (k := 58) r_265 hz.2 (by decide)
  have o_274 := S_274.at hst o_268
  have e_274 := S_274.1
  have T_274 : Same (fun b => dBlk a b ∨ b = st) h h_274 := T_268.trans (S_274.mono (fun _ q => Or.inl q))
  refine r_aload (pc := 277) dX2_readStep_277 rfl (by first | rfl | exact isRefV_rf _) ?_
  refine r_aload_n (pc := 279) dX2_readStep_279 rfl (by first | rfl | exact isRefV_rf _) ?_
  refine r_iload_n (pc := 280) dX2_readStep_280 rfl ?_
  refine rj_iconst (pc := 281) dX2_readStep_281 ?_
  refine r_callV2 (pc := 282) dX2_readStep_282 qX2_readStep kX2_69 vX2_readStep (by first | assumption | exact isI.gx (by assumption) | exact isI.gc (by assumption) | exact isW.gx (by assumption) | exact isW.gF (by assumption) | exact isW.gT (by assumption) (by omega) | exact isW.gS (by assumption) (by omega) | exact isW.gK (by assumption) (by omega) | exact isW.g1 (by assumption) | exact isW.g2 (by assumption) | exact isW.g3 (by assumption) | exact isI.gx (isW.i0 (by assumption)) | exact isI.gc (isW.i0 (by assumption)) | exact isI.gx (isW.i1 (by assumption)) | exact isI.gc (isW.i1 (by assumption)) | exact isI.gx (isW.i2 (by assumption)) | exact isI.gc (isW.i2 (by assumption)) | exact isI.gx (isW.i3 (by assumption)) | exact isI.gc (isW.i3 (by assumption)) | exact isI.gx (isW.i4 (by assumption)) | exact isI.gc (isW.i4 (by assumption)) | exact isI.gx (isW.i5 (by assumption)) | exact isI.gc (isW.i5 (by assumption)) | exact isR.gx (by assumption) | exact isRd.gx (by assumption) | exact isSp.gx (by assumption) | exact isI.gx (isR.i (by assumption)) | exact isI.gx (isRd.i (by assumption)) | exact isI.gc (isRd.i (by assumption)) | exact isI.gx (isSp.i (by assumption)) | exact isW.gx (isR.w (by assumption)) | exact isW.gF (isR.w (by assumption)) | fail "no such object") rfl rfl (Nat.le_of_ble_eq_true rfl) (P _ D_274 o_274 T_274) (fun v_282 h_282 q_282 => ?_)
  obtain ⟨r_282, rfl, R_282⟩ := q_282
  obtain ⟨o_282, l_282⟩ := hR _ _ R_282
  unfold stO at o_282
  refine r_putf (pc := 285) dX2_readStep_285 fX2_45 o_282 (by omega) (by first | rfl | exact narrow_rf _ _) (by first | rfl | exact fits_rf _ _) (Nat.le_of_ble_eq_true rfl) ?_
  dsimp only [List.set]
  refine rg_gen (fun h_285 o_285 s_285 l_285 n_285 k_285 => ?_)
  refine r_goto (pc := 288) (tgt := 317) dX2_readStep_288 (by decide) ?_
  refine r_aload (pc := 317) dX2_readStep_317 rfl (by first | rfl | exact isRefV_rf _) ?_
  refine r_areturn (pc := 319) _ dX2_readStep_319 rfl (Or.inl ⟨_, rfl⟩) (by first | rfl | exact isRefV_rf _) ?_
  exact ⟨rfl, r_282, h_282, R_282, o_285, l_285, n_285, k_285, fun b hb => s_285 b hb⟩

set_option maxHeartbeats 4000000 in
set_option maxRecDepth 100000 in
theorem rk_move {G : mG} {l : Launch} (d : Nat) {h : mH} {a st : Nat} {s : Int × Int} {o z br gd kd : Int} {f : Nat → Int} {y0 : Int64} {n0 v0 : Int} {i0 nx : Option Nat} (hD : isRd h a s.1 s.2 o z f) (hs : rgS z s) (ho : InR o) (hz : 0 ≤ z ∧ z ≤ 120) (hf : bytesOk f) (hst : ¬ dBlk a st) (hlo : h.1 ≤ st) (hO : hGet h st = some (stO kd n0 v0 y0 i0 nx)) : RUN G l (d + 3) mX2_readStep 203 [some (.ref a), some (.int (J br)), some (.int (J gd)), some (.int (J kd)), some (.ref st)] [] h (fun v h' => v = some (.ref st) ∧ ∃ y, ((97 ≤ hereC s.1 z f ∧ hereC s.1 z f ≤ 122) → y = (rnL z f 7 s.1 0).1) ∧ isRd h' a (fsM z f 2 (xpM z f 62 (nmM z f s))).1 (fsM z f 2 (xpM z f 62 (nmM z f s))).2 o z f ∧ hGet h' st = some (stO kd (rfL z f 2 (xpM z f 62 (nmM z f s)).1 0).1 v0 y i0 nx) ∧ Same (fun b => dBlk a b ∨ b = st) h h') := by
  refine r_aload (pc := 203) dX2_readStep_203 rfl (by first | rfl | exact isRefV_rf _) ?_
  refine r_aload_n (pc := 205) dX2_readStep_205 rfl (by first | rfl | exact isRefV_rf _) ?_
  refine r_callV0 (pc := 206) dX2_readStep_206 qX2_readName kX2_26 vX2_readName (by first | assumption | exact isI.gx (by assumption) | exact isI.gc (by assumption) | exact isW.gx (by assumption) | exact isW.gF (by assumption) | exact isW.gT (by assumption) (by omega) | exact isW.gS (by assumption) (by omega) | exact isW.gK (by assumption) (by omega) | exact isW.g1 (by assumption) | exact isW.g2 (by assumption) | exact isW.g3 (by assumption) | exact isI.gx (isW.i0 (by assumption)) | exact isI.gc (isW.i0 (by assumption)) | exact isI.gx (isW.i1 (by assumption)) | exact isI.gc (isW.i1 (by assumption)) | exact isI.gx (isW.i2 (by assumption)) | exact isI.gc (isW.i2 (by assumption)) | exact isI.gx (isW.i3 (by assumption)) | exact isI.gc (isW.i3 (by assumption)) | exact isI.gx (isW.i4 (by assumption)) | exact isI.gc (isW.i4 (by assumption)) | exact isI.gx (isW.i5 (by assumption)) | exact isI.gc (isW.i5 (by assumption)) | exact isR.gx (by assumption) | exact isRd.gx (by assumption) | exact isSp.gx (by assumption) | exact isI.gx (isR.i (by assumption)) | exact isI.gx (isRd.i (by assumption)) | exact isI.gc (isRd.i (by assumption)) | exact isI.gx (isSp.i (by assumption)) | exact isW.gx (isR.w (by assumption)) | exact isW.gF (isR.w (by assumption)) | fail "no such object") rfl rfl (Nat.le_of_ble_eq_true rfl) (rm_name _ hD hs ho hz hf) (fun v_206 h_206 q_206 => ?_)
  obtain ⟨⟨y_206, rfl, Y_206⟩, D_206, S_206⟩ := q_206
  have r_206 := nmM_r (f := f) hs hz.2
  have o_206 := S_206.at hst hO
  have e_206 := S_206.1
  have T_206 : Same (fun b => dBlk a b ∨ b = st) h h_206 := S_206.mono (fun _ q => Or.inl q)
  unfold stO at o_206
  refine r_putf (pc := 209) dX2_readStep_209 fX2_30 o_206 (by omega) (by first | rfl | exact narrow_rf _ _) (by first | rfl | exact fits_rf _ _) (Nat.le_of_ble_eq_true rfl) ?_
  dsimp only [List.set]
  refine rg_gen (fun h_209 o_209 s_209 l_209 n_209 k_209 => ?_)
  have D_209 := D_206.keep2 l_209 (fun b hb => s_209 b (fun q => hst (q ▸ hb)))
  have T_209 : Same (fun b => dBlk a b ∨ b = st) h h_209 := T_206.trans ⟨l_209, n_209, k_209, fun b hb => s_209 b (fun q => hb (Or.inr q))⟩
  refine r_aload_n (pc := 212) dX2_readStep_212 rfl (by first | rfl | exact isRefV_rf _) ?_
  refine rj_bipush (pc := 213) dX2_readStep_213 (by decide +kernel) ?_
  refine r_callV1 (pc := 215) dX2_readStep_215 qX2_expect kX2_38 vX2_expect (by first | assumption | exact isI.gx (by assumption) | exact isI.gc (by assumption) | exact isW.gx (by assumption) | exact isW.gF (by assumption) | exact isW.gT (by assumption) (by omega) | exact isW.gS (by assumption) (by omega) | exact isW.gK (by assumption) (by omega) | exact isW.g1 (by assumption) | exact isW.g2 (by assumption) | exact isW.g3 (by assumption) | exact isI.gx (isW.i0 (by assumption)) | exact isI.gc (isW.i0 (by assumption)) | exact isI.gx (isW.i1 (by assumption)) | exact isI.gc (isW.i1 (by assumption)) | exact isI.gx (isW.i2 (by assumption)) | exact isI.gc (isW.i2 (by assumption)) | exact isI.gx (isW.i3 (by assumption)) | exact isI.gc (isW.i3 (by assumption)) | exact isI.gx (isW.i4 (by assumption)) | exact isI.gc (isW.i4 (by assumption)) | exact isI.gx (isW.i5 (by assumption)) | exact isI.gc (isW.i5 (by assumption)) | exact isR.gx (by assumption) | exact isRd.gx (by assumption) | exact isSp.gx (by assumption) | exact isI.gx (isR.i (by assumption)) | exact isI.gx (isRd.i (by assumption)) | exact isI.gc (isRd.i (by assumption)) | exact isI.gx (isSp.i (by assumption)) | exact isW.gx (isR.w (by assumption)) | exact isW.gF (isR.w (by assumption)) | fail "no such object") rfl rfl (Nat.le_of_ble_eq_true rfl) (rm_exp _ D_209 r_206 ho hz hf (k := 62) (by decide)) (fun v_215 h_215 q_215 => ?_)
  obtain ⟨rfl, D_215, S_215⟩ := q_215
  have r_215 := xpM_r (f := f) (k := 62) r_206 hz.2 (by decide)
  have o_215 := S_215.at hst o_209
  have e_215 := S_215.1
  have T_215 : Same (fun b => dBlk a b ∨ b = st) h h_215 := T_209.trans (S_215.mono (fun _ q => Or.inl q))
  refine r_aload (pc := 218) dX2_readStep_218 rfl (by first | rfl | exact isRefV_rf _) ?_
  refine r_aload_n (pc := 220) dX2_readStep_220 rfl (by first | rfl | exact isRefV_rf _) ?_
  refine rj_iconst (pc := 221) dX2_readStep_221 ?_
  refine r_callV1 (pc := 222) dX2_readStep_222 qX2_readFigures kX2_100 vX2_readFigures (by first | assumption | exact isI.gx (by assumption) | exact isI.gc (by assumption) | exact isW.gx (by assumption) | exact isW.gF (by assumption) | exact isW.gT (by assumption) (by omega) | exact isW.gS (by assumption) (by omega) | exact isW.gK (by assumption) (by omega) | exact isW.g1 (by assumption) | exact isW.g2 (by assumption) | exact isW.g3 (by assumption) | exact isI.gx (isW.i0 (by assumption)) | exact isI.gc (isW.i0 (by assumption)) | exact isI.gx (isW.i1 (by assumption)) | exact isI.gc (isW.i1 (by assumption)) | exact isI.gx (isW.i2 (by assumption)) | exact isI.gc (isW.i2 (by assumption)) | exact isI.gx (isW.i3 (by assumption)) | exact isI.gc (isW.i3 (by assumption)) | exact isI.gx (isW.i4 (by assumption)) | exact isI.gc (isW.i4 (by assumption)) | exact isI.gx (isW.i5 (by assumption)) | exact isI.gc (isW.i5 (by assumption)) | exact isR.gx (by assumption) | exact isRd.gx (by assumption) | exact isSp.gx (by assumption) | exact isI.gx (isR.i (by assumption)) | exact isI.gx (isRd.i (by assumption)) | exact isI.gc (isRd.i (by assumption)) | exact isI.gx (isSp.i (by assumption)) | exact isW.gx (isR.w (by assumption)) | exact isW.gF (isR.w (by assumption)) | fail "no such object") rfl rfl (Nat.le_of_ble_eq_true rfl) (rm_figs _ D_215 r_215 ho hz hf) (fun v_222 h_222 q_222 => ?_)
  obtain ⟨rfl, D_222, S_222⟩ := q_222
  have r_222 := fsM_r (f := f) (m := 2) r_215 hz.2
  have o_222 := S_222.at hst o_215
  have e_222 := S_222.1
  have T_222 : Same (fun b => dBlk a b ∨ b = st) h h_222 := T_215.trans (S_222.mono (fun _ q => Or.inl q))
  unfold stO at o_222
  refine r_putf (pc := 225) dX2_readStep_225 fX2_84 o_222 (by omega) (by first | rfl | exact narrow_rf _ _) (by first | rfl | exact fits_rf _ _) (Nat.le_of_ble_eq_true rfl) ?_
  dsimp only [List.set]
  refine rg_gen (fun h_225 o_225 s_225 l_225 n_225 k_225 => ?_)
  have D_225 := D_222.keep2 l_225 (fun b hb => s_225 b (fun q => hst (q ▸ hb)))
  have T_225 : Same (fun b => dBlk a b ∨ b = st) h h_225 := T_222.trans ⟨l_225, n_225, k_225, fun b hb => s_225 b (fun q => hb (Or.inr q))⟩
  refine r_goto (pc := 228) (tgt := 317) dX2_readStep_228 (by decide) ?_
  refine r_aload (pc := 317) dX2_readStep_317 rfl (by first | rfl | exact isRefV_rf _) ?_
  refine r_areturn (pc := 319) _ dX2_readStep_319 rfl (Or.inl ⟨_, rfl⟩) (by first | rfl | exact isRefV_rf _) ?_
  exact ⟨rfl, y_206, Y_206, D_225, o_225, T_225⟩

set_option maxHeartbeats 4000000 in
set_option maxRecDepth 100000 in
theorem rk_plus {G : mG} {l : Launch} (d : Nat) {h : mH} {a st : Nat} {s : Int × Int} {o z br gd kd : Int} {f : Nat → Int} {y0 : Int64} {n0 v0 : Int} {i0 nx : Option Nat} (hD : isRd h a s.1 s.2 o z f) (hs : rgS z s) (ho : InR o) (hz : 0 ≤ z ∧ z ≤ 120) (hf : bytesOk f) (hst : ¬ dBlk a st) (hlo : h.1 ≤ st) (hO : hGet h st = some (stO kd n0 v0 y0 i0 nx)) : RUN G l (d + 3) mX2_readStep 128 [some (.ref a), some (.int (J br)), some (.int (J gd)), some (.int (J kd)), some (.ref st)] [] h (fun v h' => v = some (.ref st) ∧ isRd h' a (vlM z f (xpM z f 61 (fgM z f 8 s))).1 (vlM z f (xpM z f 61 (fgM z f 8 s))).2 o z f ∧ hGet h' st = some (stO kd (fgU z f 8 s.1) (rvV (xpM z f 61 (fgM z f 8 s)).1 z f) y0 i0 nx) ∧ Same (fun b => dBlk a b ∨ b = st) h h') := by
  refine r_aload (pc := 128) dX2_readStep_128 rfl (by first | rfl | exact isRefV_rf _) ?_
  refine r_aload_n (pc := 130) dX2_readStep_130 rfl (by first | rfl | exact isRefV_rf _) ?_
  refine rj_bipush (pc := 131) dX2_readStep_131 (by decide +kernel) ?_
  refine r_callV1 (pc := 133) dX2_readStep_133 qX2_readFigure kX2_80 vX2_readFigure (by first | assumption | exact isI.gx (by assumption) | exact isI.gc (by assumption) | exact isW.gx (by assumption) | exact isW.gF (by assumption) | exact isW.gT (by assumption) (by omega) | exact isW.gS (by assumption) (by omega) | exact isW.gK (by assumption) (by omega) | exact isW.g1 (by assumption) | exact isW.g2 (by assumption) | exact isW.g3 (by assumption) | exact isI.gx (isW.i0 (by assumption)) | exact isI.gc (isW.i0 (by assumption)) | exact isI.gx (isW.i1 (by assumption)) | exact isI.gc (isW.i1 (by assumption)) | exact isI.gx (isW.i2 (by assumption)) | exact isI.gc (isW.i2 (by assumption)) | exact isI.gx (isW.i3 (by assumption)) | exact isI.gc (isW.i3 (by assumption)) | exact isI.gx (isW.i4 (by assumption)) | exact isI.gc (isW.i4 (by assumption)) | exact isI.gx (isW.i5 (by assumption)) | exact isI.gc (isW.i5 (by assumption)) | exact isR.gx (by assumption) | exact isRd.gx (by assumption) | exact isSp.gx (by assumption) | exact isI.gx (isR.i (by assumption)) | exact isI.gx (isRd.i (by assumption)) | exact isI.gc (isRd.i (by assumption)) | exact isI.gx (isSp.i (by assumption)) | exact isW.gx (isR.w (by assumption)) | exact isW.gF (isR.w (by assumption)) | fail "no such object") rfl rfl (Nat.le_of_ble_eq_true rfl) (rm_fig _ hD hs ho hz hf (k := 8) (by decide)) (fun v_133 h_133 q_133 => ?_)
  obtain ⟨rfl, D_133, S_133⟩ := q_133
  have r_133 := fgM_r (f := f) (k := 8) hs hz.2 (by decide)
  have o_133 := S_133.at hst hO
  have e_133 := S_133.1
  have T_133 : Same (fun b => dBlk a b ∨ b = st) h h_133 := S_133.mono (fun _ q => Or.inl q)
  unfold stO at o_133
  refine r_putf (pc := 136) dX2_readStep_136 fX2_84 o_133 (by omega) (by first | rfl | exact narrow_rf _ _) (by first | rfl | exact fits_rf _ _) (Nat.le_of_ble_eq_true rfl) ?_
  dsimp only [List.set]
  refine rg_gen (fun h_136 o_136 s_136 l_136 n_136 k_136 => ?_)
  have D_136 := D_133.keep2 l_136 (fun b hb => s_136 b (fun q => hst (q ▸ hb)))
  have T_136 : Same (fun b => dBlk a b ∨ b = st) h h_136 := T_133.trans ⟨l_136, n_136, k_136, fun b hb => s_136 b (fun q => hb (Or.inr q))⟩
  refine r_aload_n (pc := 139) dX2_readStep_139 rfl (by first | rfl | exact isRefV_rf _) ?_
  refine rj_bipush (pc := 140) dX2_readStep_140 (by decide +kernel) ?_
  refine r_callV1 (pc := 142) dX2_readStep_142 qX2_expect kX2_38 vX2_expect (by first | assumption | exact isI.gx (by assumption) | exact isI.gc (by assumption) | exact isW.gx (by assumption) | exact isW.gF (by assumption) | exact isW.gT (by assumption) (by omega) | exact isW.gS (by assumption) (by omega) | exact isW.gK (by assumption) (by omega) | exact isW.g1 (by assumption) | exact isW.g2 (by assumption) | exact isW.g3 (by assumption) | exact isI.gx (isW.i0 (by assumption)) | exact isI.gc (isW.i0 (by assumption)) | exact isI.gx (isW.i1 (by assumption)) | exact isI.gc (isW.i1 (by assumption)) | exact isI.gx (isW.i2 (by assumption)) | exact isI.gc (isW.i2 (by assumption)) | exact isI.gx (isW.i3 (by assumption)) | exact isI.gc (isW.i3 (by assumption)) | exact isI.gx (isW.i4 (by assumption)) | exact isI.gc (isW.i4 (by assumption)) | exact isI.gx (isW.i5 (by assumption)) | exact isI.gc (isW.i5 (by assumption)) | exact isR.gx (by assumption) | exact isRd.gx (by assumption) | exact isSp.gx (by assumption) | exact isI.gx (isR.i (by assumption)) | exact isI.gx (isRd.i (by assumption)) | exact isI.gc (isRd.i (by assumption)) | exact isI.gx (isSp.i (by assumption)) | exact isW.gx (isR.w (by assumption)) | exact isW.gF (isR.w (by assumption)) | fail "no such object") rfl rfl (Nat.le_of_ble_eq_true rfl) (rm_exp _ D_136 r_133 ho hz hf (k := 61) (by decide)) (fun v_142 h_142 q_142 => ?_)
  obtain ⟨rfl, D_142, S_142⟩ := q_142
  have r_142 := xpM_r (f := f) (k := 61) r_133 hz.2 (by decide)
  have o_142 := S_142.at hst o_136
  have e_142 := S_142.1
  have T_142 : Same (fun b => dBlk a b ∨ b = st) h h_142 := T_136.trans (S_142.mono (fun _ q => Or.inl q))
  refine r_aload (pc := 145) dX2_readStep_145 rfl (by first | rfl | exact isRefV_rf _) ?_
  refine r_aload_n (pc := 147) dX2_readStep_147 rfl (by first | rfl | exact isRefV_rf _) ?_
  refine r_callV0 (pc := 148) dX2_readStep_148 qX2_readValue kX2_87 vX2_readValue (by first | assumption | exact isI.gx (by assumption) | exact isI.gc (by assumption) | exact isW.gx (by assumption) | exact isW.gF (by assumption) | exact isW.gT (by assumption) (by omega) | exact isW.gS (by assumption) (by omega) | exact isW.gK (by assumption) (by omega) | exact isW.g1 (by assumption) | exact isW.g2 (by assumption) | exact isW.g3 (by assumption) | exact isI.gx (isW.i0 (by assumption)) | exact isI.gc (isW.i0 (by assumption)) | exact isI.gx (isW.i1 (by assumption)) | exact isI.gc (isW.i1 (by assumption)) | exact isI.gx (isW.i2 (by assumption)) | exact isI.gc (isW.i2 (by assumption)) | exact isI.gx (isW.i3 (by assumption)) | exact isI.gc (isW.i3 (by assumption)) | exact isI.gx (isW.i4 (by assumption)) | exact isI.gc (isW.i4 (by assumption)) | exact isI.gx (isW.i5 (by assumption)) | exact isI.gc (isW.i5 (by assumption)) | exact isR.gx (by assumption) | exact isRd.gx (by assumption) | exact isSp.gx (by assumption) | exact isI.gx (isR.i (by assumption)) | exact isI.gx (isRd.i (by assumption)) | exact isI.gc (isRd.i (by assumption)) | exact isI.gx (isSp.i (by assumption)) | exact isW.gx (isR.w (by assumption)) | exact isW.gF (isR.w (by assumption)) | fail "no such object") rfl rfl (Nat.le_of_ble_eq_true rfl) (rm_val _ D_142 r_142 ho hz hf) (fun v_148 h_148 q_148 => ?_)
  obtain ⟨rfl, D_148, S_148⟩ := q_148
  have r_148 := vlM_r (f := f) r_142 hz.2
  have o_148 := S_148.at hst o_142
  have e_148 := S_148.1
  have T_148 : Same (fun b => dBlk a b ∨ b = st) h h_148 := T_142.trans (S_148.mono (fun _ q => Or.inl q))
  unfold stO at o_148
  refine r_putf (pc := 151) dX2_readStep_151 fX2_90 o_148 (by omega) (by first | rfl | exact narrow_rf _ _) (by first | rfl | exact fits_rf _ _) (Nat.le_of_ble_eq_true rfl) ?_
  dsimp only [List.set]
  refine rg_gen (fun h_151 o_151 s_151 l_151 n_151 k_151 => ?_)
  have D_151 := D_148.keep2 l_151 (fun b hb => s_151 b (fun q => hst (q ▸ hb)))
  have T_151 : Same (fun b => dBlk a b ∨ b = st) h h_151 := T_148.trans ⟨l_151, n_151, k_151, fun b hb => s_151 b (fun q => hb (Or.inr q))⟩
  refine r_goto (pc := 154) (tgt := 317) dX2_readStep_154 (by decide) ?_
  refine r_aload (pc := 317) dX2_readStep_317 rfl (by first | rfl | exact isRefV_rf _) ?_
  refine r_areturn (pc := 319) _ dX2_readStep_319 rfl (Or.inl ⟨_, rfl⟩) (by first | rfl | exact isRefV_rf _) ?_
  exact ⟨rfl, D_151, o_151, T_151⟩

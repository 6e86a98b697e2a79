set_option maxHeartbeats 4000000 in
set_option maxRecDepth 100000 in
theorem rk_take {G : mG} {l : Launch} (d : Nat) {h : mH} {a st : Nat} {s : Int × Int} {o z br gd kd : Int} {f : Nat → Int} {y0 : Int64} {n0 v0 : Int} {i0 nx : Option Nat} (hD : isRd h a s.1 s.2 o z f) (hs : rgS z s) (ho : InR o) (hz : 0 ≤ z ∧ z ≤ 120) (hf : bytesOk f) (hst : ¬ dBlk a st) (hlo : h.1 ≤ st) (hO : hGet h st = some (stO kd n0 v0 y0 i0 nx)) {R : Int64 → Option Nat → mH → Prop} (P : ∀ (y : Int64) (h1 : mH), ((97 ≤ hereC s.1 z f ∧ hereC s.1 z f ≤ 122) → y = (rnL z f 7 s.1 0).1) → isRd h1 a (nmM z f s).1 (nmM z f s).2 o z f → hGet h1 st = some (stO kd n0 v0 y i0 nx) → Same (fun b => dBlk a b ∨ b = st) h h1 → RUNM G l (d + 2) mX2_readCloser [.ref a, .int (J br)] h1 (fun v h' => ∃ r, v = some (va_rf r) ∧ R y r h')) (hR : ∀ y r h2, R y r h2 → hGet h2 st = some (stO kd n0 v0 y i0 nx) ∧ h2.1 ≤ st) : RUN G l (d + 3) mX2_readStep 169 [some (.ref a), some (.int (J br)), some (.int (J gd)), some (.int (J kd)), some (.ref st)] [] h (fun v h' => v = some (.ref st) ∧ ∃ y r h2, ((97 ≤ hereC s.1 z f ∧ hereC s.1 z f ≤ 122) → y = (rnL z f 7 s.1 0).1) ∧ R y r h2 ∧ hGet h' st = some (stO kd n0 v0 y r nx) ∧ Same (fun b => b = st) h2 h') := by
  refine r_aload (pc := 169) dX2_readStep_169 rfl (by first | rfl | exact isRefV_rf _) ?_
  refine r_aload_n (pc := 171) dX2_readStep_171 rfl (by first | rfl | exact isRefV_rf _) ?_
  refine r_callV0 (pc := 172) dX2_readStep_172 qX2_readName kX2_26 vX2_readName (by first | assumption | exact isI.gx (by assumption) | exact isI.gc (by assumption) | exact isW.gx (by assumption) | exact isW.gF (by assumption) | exact isW.gT (by assumption) (by omega) | exact isW.gS (by assumption) (by omega) | exact isW.gK (by assumption) (by omega) | exact isW.g1 (by assumption) | exact isW.g2 (by assumption) | exact isW.g3 (by assumption) | exact isI.gx (isW.i0 (by assumption)) | exact isI.gc (isW.i0 (by assumption)) | exact isI.gx (isW.i1 (by assumption)) | exact isI.gc (isW.i1 (by assumption)) | exact isI.gx (isW.i2 (by assumption)) | exact isI.gc (isW.i2 (by assumption)) | exact isI.gx (isW.i3 (by assumption)) | exact isI.gc (isW.i3 (by assumption)) | exact isI.gx (isW.i4 (by assumption)) | exact isI.gc (isW.i4 (by assumption)) | exact isI.gx (isW.i5 (by assumption)) | exact isI.gc (isW.i5 (by assumption)) | exact isR.gx (by assumption) | exact isRd.gx (by assumption) | exact isSp.gx (by assumption) | exact isI.gx (isR.i (by assumption)) | exact isI.gx (isRd.i (by assumption)) | exact isI.gc (isRd.i (by assumption)) | exact isI.gx (isSp.i (by assumption)) | exact isW.gx (isR.w (by assumption)) | exact isW.gF (isR.w (by assumption)) | fail "no such object") rfl rfl (Nat.le_of_ble_eq_true rfl) (rm_name _ hD hs ho hz hf) (fun v_172 h_172 q_172 => ?_)
  obtain ⟨⟨y_172, rfl, Y_172⟩, D_172, S_172⟩ := q_172
  have r_172 := nmM_r (f := f) hs hz.2
  have o_172 := S_172.at hst hO
  have e_172 := S_172.1
  have T_172 : Same (fun b => dBlk a b ∨ b = st) h h_172 := S_172.mono (fun _ q => Or.inl q)
  unfold stO at o_172
  refine r_putf (pc := 175) dX2_readStep_175 fX2_30 o_172 (by omega) (by first | rfl | exact narrow_rf _ _) (by first | rfl | exact fits_rf _ _) (Nat.le_of_ble_eq_true rfl) ?_
  dsimp only [List.set]
  refine rg_gen (fun h_175 o_175 s_175 l_175 n_175 k_175 => ?_)
  have D_175 := D_172.keep2 l_175 (fun b hb => s_175 b (fun q => hst (q ▸ hb)))
  have T_175 : Same (fun b => dBlk a b ∨ b = st) h h_175 := T_172.trans ⟨l_175, n_175, k_175, fun b hb => s_175 b (fun q => hb (Or.inr q))⟩
  refine r_aload (pc := 178) dX2_readStep_178 rfl (by first | rfl | exact isRefV_rf _) ?_
  refine r_aload_n (pc := 180) dX2_readStep_180 rfl (by first | rfl | exact isRefV_rf _) ?_
  refine r_iload_n (pc := 181) dX2_readStep_181 rfl ?_
  refine r_callV1 (pc := 182) dX2_readStep_182 qX2_readCloser kX2_96 vX2_readCloser (by first | assumption | exact isI.gx (by assumption) | exact isI.gc (by assumption) | exact isW.gx (by assumption) | exact isW.gF (by assumption) | exact isW.gT (by assumption) (by omega) | exact isW.gS (by assumption) (by omega) | exact isW.gK (by assumption) (by omega) | exact isW.g1 (by assumption) | exact isW.g2 (by assumption) | exact isW.g3 (by assumption) | exact isI.gx (isW.i0 (by assumption)) | exact isI.gc (isW.i0 (by assumption)) | exact isI.gx (isW.i1 (by assumption)) | exact isI.gc (isW.i1 (by assumption)) | exact isI.gx (isW.i2 (by assumption)) | exact isI.gc (isW.i2 (by assumption)) | exact isI.gx (isW.i3 (by assumption)) | exact isI.gc (isW.i3 (by assumption)) | exact isI.gx (isW.i4 (by assumption)) | exact isI.gc (isW.i4 (by assumption)) | exact isI.gx (isW.i5 (by assumption)) | exact isI.gc (isW.i5 (by assumption)) | exact isR.gx (by assumption) | exact isRd.gx (by assumption) | exact isSp.gx (by assumption) | exact isI.gx (isR.i (by assumption)) | exact isI.gx (isRd.i (by assumption)) | exact isI.gc (isRd.i (by assumption)) | exact isI.gx (isSp.i (by assumption)) | exact isW.gx (isR.w (by assumption)) | exact isW.gF (isR.w (by assumption)) | fail "no such object") rfl rfl (Nat.le_of_ble_eq_true rfl) (P y_172 _ Y_172 D_175 o_175 T_175) (fun v_182 h_182 q_182 => ?_)
  obtain ⟨r_182, rfl, R_182⟩ := q_182
  obtain ⟨o_182, l_182⟩ := hR _ _ _ R_182
  unfold stO at o_182
  refine r_putf (pc := 185) dX2_readStep_185 fX2_45 o_182 (by omega) (by first | rfl | exact narrow_rf _ _) (by first | rfl | exact fits_rf _ _) (Nat.le_of_ble_eq_true rfl) ?_
  dsimp only [List.set]
  refine rg_gen (fun h_185 o_185 s_185 l_185 n_185 k_185 => ?_)
  refine r_goto (pc := 188) (tgt := 317) dX2_readStep_188 (by decide) ?_
  refine r_aload (pc := 317) dX2_readStep_317 rfl (by first | rfl | exact isRefV_rf _) ?_
  refine r_areturn (pc := 319) _ dX2_readStep_319 rfl (Or.inl ⟨_, rfl⟩) (by first | rfl | exact isRefV_rf _) ?_
  exact ⟨rfl, y_172, r_182, h_182, Y_172, R_182, o_185, l_185, n_185, k_185, fun b hb => s_185 b hb⟩

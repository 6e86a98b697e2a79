set_option maxHeartbeats 4000000 in
set_option maxRecDepth 100000 in
theorem rk_bang {G : mG} {l : Launch} (d : Nat) {h : mH} {a st : Nat} {s : Int × Int} {o z br gd kd : Int} {f : Nat → Int} {y0 : Int64} {n0 v0 : Int} {i0 nx : Option Nat} (hD : isRd h a s.1 s.2 o z f) (hs : rgS z s) (ho : InR o) (hz : 0 ≤ z ∧ z ≤ 120) (hf : bytesOk f) (hst : ¬ dBlk a st) (hlo : h.1 ≤ st) (hO : hGet h st = some (stO kd n0 v0 y0 i0 nx)) : RUN G l (d + 3) mX2_readStep 157 [some (.ref a), some (.int (J br)), some (.int (J gd)), some (.int (J kd)), some (.ref st)] [] h (fun v h' => v = some (.ref st) ∧ isRd h' a (fnM z f s).1 (fnM z f s).2 o z f ∧ hGet h' st = some (stO kd (rfL z f 2 s.1 0).1 v0 y0 i0 nx) ∧ Same (fun b => dBlk a b ∨ b = st) h h') := by
  refine r_aload (pc := 157) dX2_readStep_157 rfl (by first | rfl | exact isRefV_rf _) ?_
  refine r_aload_n (pc := 159) dX2_readStep_159 rfl (by first | rfl | exact isRefV_rf _) ?_
  refine r_callV0 (pc := 160) dX2_readStep_160 qX2_readFaultNumber kX2_93 vX2_readFaultNumber (by first | assumption | exact isI.gx (by assumption) | exact isI.gc (by assumption) | exact isW.gx (by assumption) | exact isW.gF (by assumption) | exact isW.gT (by assumption) (by omega) | exact isW.gS (by assumption) (by omega) | exact isW.gK (by assumption) (by omega) | exact isW.g1 (by assumption) | exact isW.g2 (by assumption) | exact isW.g3 (by assumption) | exact isI.gx (isW.i0 (by assumption)) | exact isI.gc (isW.i0 (by assumption)) | exact isI.gx (isW.i1 (by assumption)) | exact isI.gc (isW.i1 (by assumption)) | exact isI.gx (isW.i2 (by assumption)) | exact isI.gc (isW.i2 (by assumption)) | exact isI.gx (isW.i3 (by assumption)) | exact isI.gc (isW.i3 (by assumption)) | exact isI.gx (isW.i4 (by assumption)) | exact isI.gc (isW.i4 (by assumption)) | exact isI.gx (isW.i5 (by assumption)) | exact isI.gc (isW.i5 (by assumption)) | exact isR.gx (by assumption) | exact isRd.gx (by assumption) | exact isSp.gx (by assumption) | exact isI.gx (isR.i (by assumption)) | exact isI.gx (isRd.i (by assumption)) | exact isI.gc (isRd.i (by assumption)) | exact isI.gx (isSp.i (by assumption)) | exact isW.gx (isR.w (by assumption)) | exact isW.gF (isR.w (by assumption)) | fail "no such object") rfl rfl (Nat.le_of_ble_eq_true rfl) (rm_fn _ hD hs ho hz hf) (fun v_160 h_160 q_160 => ?_)
  obtain ⟨rfl, D_160, S_160⟩ := q_160
  have r_160 := fnM_r (f := f) hs hz.2
  have o_160 := S_160.at hst hO
  have e_160 := S_160.1
  have T_160 : Same (fun b => dBlk a b ∨ b = st) h h_160 := S_160.mono (fun _ q => Or.inl q)
  unfold stO at o_160
  refine r_putf (pc := 163) dX2_readStep_163 fX2_84 o_160 (by omega) (by first | rfl | exact narrow_rf _ _) (by first | rfl | exact fits_rf _ _) (Nat.le_of_ble_eq_true rfl) ?_
  dsimp only [List.set]
  refine rg_gen (fun h_163 o_163 s_163 l_163 n_163 k_163 => ?_)
  have D_163 := D_160.keep2 l_163 (fun b hb => s_163 b (fun q => hst (q ▸ hb)))
  have T_163 : Same (fun b => dBlk a b ∨ b = st) h h_163 := T_160.trans ⟨l_163, n_163, k_163, fun b hb => s_163 b (fun q => hb (Or.inr q))⟩
  refine r_goto (pc := 166) (tgt := 317) dX2_readStep_166 (by decide) ?_
  refine r_aload (pc := 317) dX2_readStep_317 rfl (by first | rfl | exact isRefV_rf _) ?_
  refine r_areturn (pc := 319) _ dX2_readStep_319 rfl (Or.inl ⟨_, rfl⟩) (by first | rfl | exact isRefV_rf _) ?_
  exact ⟨rfl, D_163, o_163, T_163⟩

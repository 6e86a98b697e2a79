set_option maxHeartbeats 4000000 in
set_option maxRecDepth 100000 in
theorem rk_cancel {G : mG} {l : Launch} (d : Nat) {h : mH} {a st : Nat} {s : Int × Int} {o z br gd kd : Int} {f : Nat → Int} {y0 : Int64} {n0 v0 : Int} {i0 nx : Option Nat} (hD : isRd h a s.1 s.2 o z f) (hs : rgS z s) (ho : InR o) (hz : 0 ≤ z ∧ z ≤ 120) (hf : bytesOk f) (hst : ¬ dBlk a st) (hlo : h.1 ≤ st) (hO : hGet h st = some (stO kd n0 v0 y0 i0 nx)) : RUN G l (d + 3) mX2_readStep 231 [some (.ref a), some (.int (J br)), some (.int (J gd)), some (.int (J kd)), some (.ref st)] [] h (fun v h' => v = some (.ref st) ∧ isRd h' a (fgM z f 10 s).1 (fgM z f 10 s).2 o z f ∧ hGet h' st = some (stO kd (fgU z f 10 s.1) v0 y0 i0 nx) ∧ Same (fun b => dBlk a b ∨ b = st) h h') := by
  refine r_aload (pc := 231) dX2_readStep_231 rfl (by first | rfl | exact isRefV_rf _) ?_
  refine r_aload_n (pc := 233) dX2_readStep_233 rfl (by first | rfl | exact isRefV_rf _) ?_
  refine rj_bipush (pc := 234) dX2_readStep_234 (by decide +kernel) ?_
  refine r_callV1 (pc := 236) dX2_readStep_236 qX2_readFigure kX2_80 vX2_readFigure (by first | assumption | exact isI.gx (by assumption) | exact isI.gc (by assumption) | exact isW.gx (by assumption) | exact isW.gF (by assumption) | exact isW.gT (by assumption) (by omega) | exact isW.gS (by assumption) (by omega) | exact isW.gK (by assumption) (by omega) | exact isW.g1 (by assumption) | exact isW.g2 (by assumption) | exact isW.g3 (by assumption) | exact isI.gx (isW.i0 (by assumption)) | exact isI.gc (isW.i0 (by assumption)) | exact isI.gx (isW.i1 (by assumption)) | exact isI.gc (isW.i1 (by assumption)) | exact isI.gx (isW.i2 (by assumption)) | exact isI.gc (isW.i2 (by assumption)) | exact isI.gx (isW.i3 (by assumption)) | exact isI.gc (isW.i3 (by assumption)) | exact isI.gx (isW.i4 (by assumption)) | exact isI.gc (isW.i4 (by assumption)) | exact isI.gx (isW.i5 (by assumption)) | exact isI.gc (isW.i5 (by assumption)) | exact isR.gx (by assumption) | exact isRd.gx (by assumption) | exact isSp.gx (by assumption) | exact isI.gx (isR.i (by assumption)) | exact isI.gx (isRd.i (by assumption)) | exact isI.gc (isRd.i (by assumption)) | exact isI.gx (isSp.i (by assumption)) | exact isW.gx (isR.w (by assumption)) | exact isW.gF (isR.w (by assumption)) | fail "no such object") rfl rfl (Nat.le_of_ble_eq_true rfl) (rm_fig _ hD hs ho hz hf (k := 10) (by decide)) (fun v_236 h_236 q_236 => ?_)
  obtain ⟨rfl, D_236, S_236⟩ := q_236
  have r_236 := fgM_r (f := f) (k := 10) hs hz.2 (by decide)
  have o_236 := S_236.at hst hO
  have e_236 := S_236.1
  have T_236 : Same (fun b => dBlk a b ∨ b = st) h h_236 := S_236.mono (fun _ q => Or.inl q)
  unfold stO at o_236
  refine r_putf (pc := 239) dX2_readStep_239 fX2_84 o_236 (by omega) (by first | rfl | exact narrow_rf _ _) (by first | rfl | exact fits_rf _ _) (Nat.le_of_ble_eq_true rfl) ?_
  dsimp only [List.set]
  refine rg_gen (fun h_239 o_239 s_239 l_239 n_239 k_239 => ?_)
  have D_239 := D_236.keep2 l_239 (fun b hb => s_239 b (fun q => hst (q ▸ hb)))
  have T_239 : Same (fun b => dBlk a b ∨ b = st) h h_239 := T_236.trans ⟨l_239, n_239, k_239, fun b hb => s_239 b (fun q => hb (Or.inr q))⟩
  refine r_goto (pc := 242) (tgt := 317) dX2_readStep_242 (by decide) ?_
  refine r_aload (pc := 317) dX2_readStep_317 rfl (by first | rfl | exact isRefV_rf _) ?_
  refine r_areturn (pc := 319) _ dX2_readStep_319 rfl (Or.inl ⟨_, rfl⟩) (by first | rfl | exact isRefV_rf _) ?_
  exact ⟨rfl, D_239, o_239, T_239⟩

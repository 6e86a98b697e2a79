set_option maxHeartbeats 4000000 in
set_option maxRecDepth 100000 in
theorem rk_close {G : mG} {l : Launch} (d : Nat) {h : mH} {a st : Nat} {s : Int × Int} {o z br gd kd : Int} {f : Nat → Int} {y0 : Int64} {n0 v0 : Int} {i0 nx : Option Nat} (hD : isRd h a s.1 s.2 o z f) (hs : rgS z s) (ho : InR o) (hz : 0 ≤ z ∧ z ≤ 120) (hf : bytesOk f) (hst : ¬ dBlk a st) (hlo : h.1 ≤ st) (hO : hGet h st = some (stO kd n0 v0 y0 i0 nx)) : RUN G l (d + 3) mX2_readStep 191 [some (.ref a), some (.int (J br)), some (.int (J gd)), some (.int (J kd)), some (.ref st)] [] h (fun v h' => v = some (.ref st) ∧ ∃ y, ((97 ≤ hereC s.1 z f ∧ hereC s.1 z f ≤ 122) → y = (rnL z f 7 s.1 0).1) ∧ isRd h' a (nmM z f s).1 (nmM z f s).2 o z f ∧ hGet h' st = some (stO kd n0 v0 y i0 nx) ∧ Same (fun b => dBlk a b ∨ b = st) h h') := by
  refine r_aload (pc := 191) dX2_readStep_191 rfl (by first | rfl | exact isRefV_rf _) ?_
  refine r_aload_n (pc := 193) dX2_readStep_193 rfl (by first | rfl | exact isRefV_rf _) ?_
  refine r_callV0 (pc := 194) dX2_readStep_194 qX2_readName kX2_26 vX2_readName (by first | assumption | exact isI.gx (by assumption) | exact isI.gc (by assumption) | exact isW.gx (by assumption) | exact isW.gF (by assumption) | exact isW.gT (by assumption) (by omega) | exact isW.gS (by assumption) (by omega) | exact isW.gK (by assumption) (by omega) | exact isW.g1 (by assumption) | exact isW.g2 (by assumption) | exact isW.g3 (by assumption) | exact isI.gx (isW.i0 (by assumption)) | exact isI.gc (isW.i0 (by assumption)) | exact isI.gx (isW.i1 (by assumption)) | exact isI.gc (isW.i1 (by assumption)) | exact isI.gx (isW.i2 (by assumption)) | exact isI.gc (isW.i2 (by assumption)) | exact isI.gx (isW.i3 (by assumption)) | exact isI.gc (isW.i3 (by assumption)) | exact isI.gx (isW.i4 (by assumption)) | exact isI.gc (isW.i4 (by assumption)) | exact isI.gx (isW.i5 (by assumption)) | exact isI.gc (isW.i5 (by assumption)) | exact isR.gx (by assumption) | exact isRd.gx (by assumption) | exact isSp.gx (by assumption) | exact isI.gx (isR.i (by assumption)) | exact isI.gx (isRd.i (by assumption)) | exact isI.gc (isRd.i (by assumption)) | exact isI.gx (isSp.i (by assumption)) | exact isW.gx (isR.w (by assumption)) | exact isW.gF (isR.w (by assumption)) | fail "no such object") rfl rfl (Nat.le_of_ble_eq_true rfl) (rm_name _ hD hs ho hz hf) (fun v_194 h_194 q_194 => ?_)
  obtain ⟨⟨y_194, rfl, Y_194⟩, D_194, S_194⟩ := q_194
  have r_194 := nmM_r (f := f) hs hz.2
  have o_194 := S_194.at hst hO
  have e_194 := S_194.1
  have T_194 : Same (fun b => dBlk a b ∨ b = st) h h_194 := S_194.mono (fun _ q => Or.inl q)
  unfold stO at o_194
  refine r_putf (pc := 197) dX2_readStep_197 fX2_30 o_194 (by omega) (by first | rfl | exact narrow_rf _ _) (by first | rfl | exact fits_rf _ _) (Nat.le_of_ble_eq_true rfl) ?_
  dsimp only [List.set]
  refine rg_gen (fun h_197 o_197 s_197 l_197 n_197 k_197 => ?_)
  have D_197 := D_194.keep2 l_197 (fun b hb => s_197 b (fun q => hst (q ▸ hb)))
  have T_197 : Same (fun b => dBlk a b ∨ b = st) h h_197 := T_194.trans ⟨l_197, n_197, k_197, fun b hb => s_197 b (fun q => hb (Or.inr q))⟩
  refine r_goto (pc := 200) (tgt := 317) dX2_readStep_200 (by decide) ?_
  refine r_aload (pc := 317) dX2_readStep_317 rfl (by first | rfl | exact isRefV_rf _) ?_
  refine r_areturn (pc := 319) _ dX2_readStep_319 rfl (Or.inl ⟨_, rfl⟩) (by first | rfl | exact isRefV_rf _) ?_
  exact ⟨rfl, y_194, Y_194, D_197, o_197, T_197⟩

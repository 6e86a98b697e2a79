section mg_9l
set_option maxHeartbeats 4000000 in
set_option maxRecDepth 100000 in
theorem rd_name {G : mG} {l : Launch} (d : Nat) {h : mH} {a : Nat} {p e o z : Int} {f : Nat → Int} (hD : isRd h a p e o z f) (hp : InR p) (he : InR e) (ho : InR o) (hz : InR z) (hf : ∀ q, InR (f q)) (hp0 : 0 ≤ p ∧ p + 20 ≤ 1000) (hz0 : 0 ≤ z ∧ z ≤ 120) : RUNM G l (d + 1) mX2_readName [.ref a] h (fun v h' => ((97 ≤ hereC p z f ∧ hereC p z f ≤ 122) ∧ v = some (.long (rnL z f 7 p 0).1) ∧ isRd h' a (rnL z f 7 p 0).2 e o z f ∧ Same (dBlk a) h h') ∨ (¬ (97 ≤ hereC p z f ∧ hereC p z f ≤ 122) ∧ (∃ y, v = some (.long y)) ∧ isRd h' a z (ftE e p) o z f ∧ Same (dBlk a) h h')) := by
  refine RUNM.of (by decide +kernel) (Nat.le_of_ble_eq_true rfl) ?_
  have rh := hereC_r (p := p) (z := z) hf
  refine r_aload_n (pc := 0) dX2_readName_0 rfl (by first | rfl | exact isRefV_rf _) ?_
  refine r_callV0 (pc := 1) dX2_readName_1 qX2_here kX2_34 vX2_here (by first | assumption | exact isI.gx (by assumption) | exact isI.gc (by assumption) | exact isW.gx (by assumption) | exact isW.gF (by assumption) | exact isW.gT (by assumption) (by omega) | exact isW.gS (by assumption) (by omega) | exact isW.gK (by assumption) (by omega) | exact isW.g1 (by assumption) | exact isW.g2 (by assumption) | exact isW.g3 (by assumption) | exact isI.gx (isW.i0 (by assumption)) | exact isI.gc (isW.i0 (by assumption)) | exact isI.gx (isW.i1 (by assumption)) | exact isI.gc (isW.i1 (by assumption)) | exact isI.gx (isW.i2 (by assumption)) | exact isI.gc (isW.i2 (by assumption)) | exact isI.gx (isW.i3 (by assumption)) | exact isI.gc (isW.i3 (by assumption)) | exact isI.gx (isW.i4 (by assumption)) | exact isI.gc (isW.i4 (by assumption)) | exact isI.gx (isW.i5 (by assumption)) | exact isI.gc (isW.i5 (by assumption)) | exact isR.gx (by assumption) | exact isRd.gx (by assumption) | exact isSp.gx (by assumption) | exact isI.gx (isR.i (by assumption)) | exact isI.gx (isRd.i (by assumption)) | exact isI.gc (isRd.i (by assumption)) | exact isI.gx (isSp.i (by assumption)) | exact isW.gx (isR.w (by assumption)) | exact isW.gF (isR.w (by assumption)) | fail "no such object") rfl rfl (Nat.le_of_ble_eq_true rfl) (cd_here _ hD hp he ho hz hf) (fun v_1 h_1 q_1 => ?_)
  obtain ⟨rfl, rfl⟩ := q_1
  refine r_callS1 (pc := 4) dX2_readName_4 qX2_isLetter kX2_103 sX2_isLetter (Nat.le_of_ble_eq_true rfl) (cd_isLetter _ (i := hereC p z f) rh) (fun v_4 h_4 q_4 => ?_)
  obtain ⟨rfl, rfl⟩ := q_4
  refine rj_if_ne (pc := 7) (tgt := 18) dX2_readName_7 (by decide) (by first | exact b01_r | exact bz_r | omega | (constructor <;> omega) | apply_assumption | (apply atF_r; assumption) | fail "no range") (fun c_7 => ?_) (fun c_7 => ?_)
  · try simp only [b01_0, bz_0, Classical.not_not] at c_7
    refine r_lconst (pc := 18) (v := 0) dX2_readName_18 (by decide) ?_
    refine r_lstore_n (pc := 19) dX2_readName_19 (Nat.le_of_ble_eq_true rfl) ?_
    dsimp only [lsSt, lsSt2, List.set, mLs, mEnt]
    refine rj_iconst (pc := 20) dX2_readName_20 ?_
    refine r_istore_n (pc := 21) dX2_readName_21 (Nat.le_of_ble_eq_true rfl) ?_
    dsimp only [lsSt, List.set, mLs, mEnt]
    have y := L_readNameG (G := G) (l := l) d he ho hz hf 7 0 p 0 _ hD (by omega) (by omega)
    exact y.mono (fun v h' g => Or.inl ⟨c_7, g.1, g.2.1, g.2.2⟩)
  · try simp only [b01_0, bz_0, Classical.not_not] at c_7
    refine r_aload_n (pc := 10) dX2_readName_10 rfl (by first | rfl | exact isRefV_rf _) ?_
    refine r_aload_n (pc := 11) dX2_readName_11 rfl (by first | rfl | exact isRefV_rf _) ?_
    refine r_getf (pc := 12) dX2_readName_12 fX2_53 (by first | assumption | exact isI.gx (by assumption) | exact isI.gc (by assumption) | exact isW.gx (by assumption) | exact isW.gF (by assumption) | exact isW.gT (by assumption) (by omega) | exact isW.gS (by assumption) (by omega) | exact isW.gK (by assumption) (by omega) | exact isW.g1 (by assumption) | exact isW.g2 (by assumption) | exact isW.g3 (by assumption) | exact isI.gx (isW.i0 (by assumption)) | exact isI.gc (isW.i0 (by assumption)) | exact isI.gx (isW.i1 (by assumption)) | exact isI.gc (isW.i1 (by assumption)) | exact isI.gx (isW.i2 (by assumption)) | exact isI.gc (isW.i2 (by assumption)) | exact isI.gx (isW.i3 (by assumption)) | exact isI.gc (isW.i3 (by assumption)) | exact isI.gx (isW.i4 (by assumption)) | exact isI.gc (isW.i4 (by assumption)) | exact isI.gx (isW.i5 (by assumption)) | exact isI.gc (isW.i5 (by assumption)) | exact isR.gx (by assumption) | exact isRd.gx (by assumption) | exact isSp.gx (by assumption) | exact isI.gx (isR.i (by assumption)) | exact isI.gx (isRd.i (by assumption)) | exact isI.gc (isRd.i (by assumption)) | exact isI.gx (isSp.i (by assumption)) | exact isW.gx (isR.w (by assumption)) | exact isW.gF (isR.w (by assumption)) | fail "no such object") (by rfl) ?_
    refine r_callV1 (pc := 15) dX2_readName_15 qX2_failAt kX2_56 vX2_failAt (by first | assumption | exact isI.gx (by assumption) | exact isI.gc (by assumption) | exact isW.gx (by assumption) | exact isW.gF (by assumption) | exact isW.gT (by assumption) (by omega) | exact isW.gS (by assumption) (by omega) | exact isW.gK (by assumption) (by omega) | exact isW.g1 (by assumption) | exact isW.g2 (by assumption) | exact isW.g3 (by assumption) | exact isI.gx (isW.i0 (by assumption)) | exact isI.gc (isW.i0 (by assumption)) | exact isI.gx (isW.i1 (by assumption)) | exact isI.gc (isW.i1 (by assumption)) | exact isI.gx (isW.i2 (by assumption)) | exact isI.gc (isW.i2 (by assumption)) | exact isI.gx (isW.i3 (by assumption)) | exact isI.gc (isW.i3 (by assumption)) | exact isI.gx (isW.i4 (by assumption)) | exact isI.gc (isW.i4 (by assumption)) | exact isI.gx (isW.i5 (by assumption)) | exact isI.gc (isW.i5 (by assumption)) | exact isR.gx (by assumption) | exact isRd.gx (by assumption) | exact isSp.gx (by assumption) | exact isI.gx (isR.i (by assumption)) | exact isI.gx (isRd.i (by assumption)) | exact isI.gc (isRd.i (by assumption)) | exact isI.gx (isSp.i (by assumption)) | exact isW.gx (isR.w (by assumption)) | exact isW.gF (isR.w (by assumption)) | fail "no such object") rfl rfl (Nat.le_of_ble_eq_true rfl) (rd_failAt _ hD he p) (fun v_15 h_15 q_15 => ?_)
    obtain ⟨rfl, D_15, S_15⟩ := q_15
    refine r_lconst (pc := 18) (v := 0) dX2_readName_18 (by decide) ?_
    refine r_lstore_n (pc := 19) dX2_readName_19 (Nat.le_of_ble_eq_true rfl) ?_
    dsimp only [lsSt, lsSt2, List.set, mLs, mEnt]
    refine rj_iconst (pc := 20) dX2_readName_20 ?_
    refine r_istore_n (pc := 21) dX2_readName_21 (Nat.le_of_ble_eq_true rfl) ?_
    dsimp only [lsSt, List.set, mLs, mEnt]
    have y := L_readNameG (G := G) (l := l) d (ftE_r he hp) ho hz hf 7 0 z 0 _ D_15 (by omega) (by omega)
    rw [rnL_z] at y
    exact y.mono (fun v h' g => Or.inr ⟨c_7, ⟨_, g.1⟩, g.2.1, S_15.trans g.2.2⟩)
end mg_9l

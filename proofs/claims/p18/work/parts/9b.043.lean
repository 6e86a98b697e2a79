section mg_9k
set_option maxHeartbeats 4000000 in
set_option maxRecDepth 100000 in
theorem rd_faultNumber {G : mG} {l : Launch} (d : Nat) {h : mH} {a : Nat} {p e o z : Int} {f : Nat → Int} (hD : isRd h a p e o z f) (hp : InR p) (he : InR e) (ho : InR o) (hz : InR z) (hf : ∀ q, InR (f q)) (hp0 : 0 ≤ p ∧ p + 20 ≤ 1000) (hr0 : InR (rfL z f 2 p 0).1) : RUNM G l (d + 2) mX2_readFaultNumber [.ref a] h (fun v h' => v = some (.int (J (rfL z f 2 p 0).1)) ∧ ((p < (rfL z f 2 p 0).2 ∧ ¬ (rfL z f 2 p 0).1 = 0 ∧ isRd h' a (rfL z f 2 p 0).2 e o z f) ∨ (((rfL z f 2 p 0).2 = p ∨ (rfL z f 2 p 0).1 = 0) ∧ isRd h' a z (ftE e p) o z f)) ∧ Same (dBlk a) h h') := by
  refine RUNM.of (by decide +kernel) (Nat.le_of_ble_eq_true rfl) ?_
  refine r_aload_n (pc := 0) dX2_readFaultNumber_0 rfl (by first | rfl | exact isRefV_rf _) ?_
  refine r_getf (pc := 1) dX2_readFaultNumber_1 fX2_53 (by first | assumption | exact isI.gx (by assumption) | exact isI.gc (by assumption) | exact isW.gx (by assumption) | exact isW.gF (by assumption) | exact isW.gT (by assumption) (by omega) | exact isW.gS (by assumption) (by omega) | exact isW.gK (by assumption) (by omega) | exact isW.g1 (by assumption) | exact isW.g2 (by assumption) | exact isW.g3 (by assumption) | exact isI.gx (isW.i0 (by assumption)) | exact isI.gc (isW.i0 (by assumption)) | exact isI.gx (isW.i1 (by assumption)) | exact isI.gc (isW.i1 (by assumption)) | exact isI.gx (isW.i2 (by assumption)) | exact isI.gc (isW.i2 (by assumption)) | exact isI.gx (isW.i3 (by assumption)) | exact isI.gc (isW.i3 (by assumption)) | exact isI.gx (isW.i4 (by assumption)) | exact isI.gc (isW.i4 (by assumption)) | exact isI.gx (isW.i5 (by assumption)) | exact isI.gc (isW.i5 (by assumption)) | exact isR.gx (by assumption) | exact isRd.gx (by assumption) | exact isSp.gx (by assumption) | exact isI.gx (isR.i (by assumption)) | exact isI.gx (isRd.i (by assumption)) | exact isI.gc (isRd.i (by assumption)) | exact isI.gx (isSp.i (by assumption)) | exact isW.gx (isR.w (by assumption)) | exact isW.gF (isR.w (by assumption)) | fail "no such object") (by rfl) ?_
  refine r_istore_n (pc := 4) dX2_readFaultNumber_4 (Nat.le_of_ble_eq_true rfl) ?_
  dsimp only [lsSt, List.set, mLs, mEnt]
  refine r_aload_n (pc := 5) dX2_readFaultNumber_5 rfl (by first | rfl | exact isRefV_rf _) ?_
  refine rj_iconst (pc := 6) dX2_readFaultNumber_6 ?_
  refine r_callV1 (pc := 7) dX2_readFaultNumber_7 qX2_readFigures kX2_100 vX2_readFigures (by first | assumption | exact isI.gx (by assumption) | exact isI.gc (by assumption) | exact isW.gx (by assumption) | exact isW.gF (by assumption) | exact isW.gT (by assumption) (by omega) | exact isW.gS (by assumption) (by omega) | exact isW.gK (by assumption) (by omega) | exact isW.g1 (by assumption) | exact isW.g2 (by assumption) | exact isW.g3 (by assumption) | exact isI.gx (isW.i0 (by assumption)) | exact isI.gc (isW.i0 (by assumption)) | exact isI.gx (isW.i1 (by assumption)) | exact isI.gc (isW.i1 (by assumption)) | exact isI.gx (isW.i2 (by assumption)) | exact isI.gc (isW.i2 (by assumption)) | exact isI.gx (isW.i3 (by assumption)) | exact isI.gc (isW.i3 (by assumption)) | exact isI.gx (isW.i4 (by assumption)) | exact isI.gc (isW.i4 (by assumption)) | exact isI.gx (isW.i5 (by assumption)) | exact isI.gc (isW.i5 (by assumption)) | exact isR.gx (by assumption) | exact isRd.gx (by assumption) | exact isSp.gx (by assumption) | exact isI.gx (isR.i (by assumption)) | exact isI.gx (isRd.i (by assumption)) | exact isI.gc (isRd.i (by assumption)) | exact isI.gx (isSp.i (by assumption)) | exact isW.gx (isR.w (by assumption)) | exact isW.gF (isR.w (by assumption)) | fail "no such object") rfl rfl (Nat.le_of_ble_eq_true rfl) (rd_figures _ hD hp he ho hz hf hp0 (m := 2) (by omega)) (fun v_7 h_7 q_7 => ?_)
  obtain ⟨rfl, D_7, S_7⟩ := q_7
  rcases D_7 with ⟨b_7, D_7⟩ | ⟨b_7, D_7⟩
  · skip
    refine r_istore_n (pc := 10) dX2_readFaultNumber_10 (Nat.le_of_ble_eq_true rfl) ?_
    dsimp only [lsSt, List.set, mLs, mEnt]
    refine r_iload_n (pc := 11) dX2_readFaultNumber_11 rfl ?_
    refine rj_if_ne (pc := 12) (tgt := 20) dX2_readFaultNumber_12 (by decide) (by first | exact b01_r | exact bz_r | omega | (constructor <;> omega) | apply_assumption | (apply atF_r; assumption) | fail "no range") (fun c_12 => ?_) (fun c_12 => ?_)
    · try simp only [b01_0, bz_0, Classical.not_not] at c_12
      refine r_iload_n (pc := 20) dX2_readFaultNumber_20 rfl ?_
      refine r_ireturn (pc := 21) .int dX2_readFaultNumber_21 rfl (by first | rfl | assumption) ?_
      first | exact ⟨rfl, Or.inl ⟨b_7, c_12, D_7⟩, S_7⟩ | exact ⟨rfl, Or.inr ⟨Or.inl b_7, D_7⟩, S_7⟩ | exact ⟨rfl, Or.inr ⟨Or.inr c_12, D_17⟩, S_7.trans S_17⟩ | exact ⟨rfl, Or.inr ⟨Or.inr (by omega), D_17⟩, S_7.trans S_17⟩
    · try simp only [b01_0, bz_0, Classical.not_not] at c_12
      refine r_aload_n (pc := 15) dX2_readFaultNumber_15 rfl (by first | rfl | exact isRefV_rf _) ?_
      refine r_iload_n (pc := 16) dX2_readFaultNumber_16 rfl ?_
      refine r_callV1 (pc := 17) dX2_readFaultNumber_17 qX2_failAt kX2_56 vX2_failAt (by first | assumption | exact isI.gx (by assumption) | exact isI.gc (by assumption) | exact isW.gx (by assumption) | exact isW.gF (by assumption) | exact isW.gT (by assumption) (by omega) | exact isW.gS (by assumption) (by omega) | exact isW.gK (by assumption) (by omega) | exact isW.g1 (by assumption) | exact isW.g2 (by assumption) | exact isW.g3 (by assumption) | exact isI.gx (isW.i0 (by assumption)) | exact isI.gc (isW.i0 (by assumption)) | exact isI.gx (isW.i1 (by assumption)) | exact isI.gc (isW.i1 (by assumption)) | exact isI.gx (isW.i2 (by assumption)) | exact isI.gc (isW.i2 (by assumption)) | exact isI.gx (isW.i3 (by assumption)) | exact isI.gc (isW.i3 (by assumption)) | exact isI.gx (isW.i4 (by assumption)) | exact isI.gc (isW.i4 (by assumption)) | exact isI.gx (isW.i5 (by assumption)) | exact isI.gc (isW.i5 (by assumption)) | exact isR.gx (by assumption) | exact isRd.gx (by assumption) | exact isSp.gx (by assumption) | exact isI.gx (isR.i (by assumption)) | exact isI.gx (isRd.i (by assumption)) | exact isI.gc (isRd.i (by assumption)) | exact isI.gx (isSp.i (by assumption)) | exact isW.gx (isR.w (by assumption)) | exact isW.gF (isR.w (by assumption)) | fail "no such object") rfl rfl (Nat.le_of_ble_eq_true rfl) (rd_failAt _ D_7 he p) (fun v_17 h_17 q_17 => ?_)
      obtain ⟨rfl, D_17, S_17⟩ := q_17
      refine r_iload_n (pc := 20) dX2_readFaultNumber_20 rfl ?_
      refine r_ireturn (pc := 21) .int dX2_readFaultNumber_21 rfl (by first | rfl | assumption) ?_
      first | exact ⟨rfl, Or.inl ⟨b_7, c_12, D_7⟩, S_7⟩ | exact ⟨rfl, Or.inr ⟨Or.inl b_7, D_7⟩, S_7⟩ | exact ⟨rfl, Or.inr ⟨Or.inr c_12, D_17⟩, S_7.trans S_17⟩ | exact ⟨rfl, Or.inr ⟨Or.inr (by omega), D_17⟩, S_7.trans S_17⟩
  · skip
    refine r_istore_n (pc := 10) dX2_readFaultNumber_10 (Nat.le_of_ble_eq_true rfl) ?_
    dsimp only [lsSt, List.set, mLs, mEnt]
    refine r_iload_n (pc := 11) dX2_readFaultNumber_11 rfl ?_
    refine rj_if_ne (pc := 12) (tgt := 20) dX2_readFaultNumber_12 (by decide) (by first | exact b01_r | exact bz_r | omega | (constructor <;> omega) | apply_assumption | (apply atF_r; assumption) | fail "no range") (fun c_12 => ?_) (fun c_12 => ?_)
    · try simp only [b01_0, bz_0, Classical.not_not] at c_12
      refine r_iload_n (pc := 20) dX2_readFaultNumber_20 rfl ?_
      refine r_ireturn (pc := 21) .int dX2_readFaultNumber_21 rfl (by first | rfl | assumption) ?_
      first | exact ⟨rfl, Or.inl ⟨b_7, c_12, D_7⟩, S_7⟩ | exact ⟨rfl, Or.inr ⟨Or.inl b_7, D_7⟩, S_7⟩ | exact ⟨rfl, Or.inr ⟨Or.inr c_12, D_17⟩, S_7.trans S_17⟩ | exact ⟨rfl, Or.inr ⟨Or.inr (by omega), D_17⟩, S_7.trans S_17⟩
    · try simp only [b01_0, bz_0, Classical.not_not] at c_12
      refine r_aload_n (pc := 15) dX2_readFaultNumber_15 rfl (by first | rfl | exact isRefV_rf _) ?_
      refine r_iload_n (pc := 16) dX2_readFaultNumber_16 rfl ?_
      refine r_callV1 (pc := 17) dX2_readFaultNumber_17 qX2_failAt kX2_56 vX2_failAt (by first | assumption | exact isI.gx (by assumption) | exact isI.gc (by assumption) | exact isW.gx (by assumption) | exact isW.gF (by assumption) | exact isW.gT (by assumption) (by omega) | exact isW.gS (by assumption) (by omega) | exact isW.gK (by assumption) (by omega) | exact isW.g1 (by assumption) | exact isW.g2 (by assumption) | exact isW.g3 (by assumption) | exact isI.gx (isW.i0 (by assumption)) | exact isI.gc (isW.i0 (by assumption)) | exact isI.gx (isW.i1 (by assumption)) | exact isI.gc (isW.i1 (by assumption)) | exact isI.gx (isW.i2 (by assumption)) | exact isI.gc (isW.i2 (by assumption)) | exact isI.gx (isW.i3 (by assumption)) | exact isI.gc (isW.i3 (by assumption)) | exact isI.gx (isW.i4 (by assumption)) | exact isI.gc (isW.i4 (by assumption)) | exact isI.gx (isW.i5 (by assumption)) | exact isI.gc (isW.i5 (by assumption)) | exact isR.gx (by assumption) | exact isRd.gx (by assumption) | exact isSp.gx (by assumption) | exact isI.gx (isR.i (by assumption)) | exact isI.gx (isRd.i (by assumption)) | exact isI.gc (isRd.i (by assumption)) | exact isI.gx (isSp.i (by assumption)) | exact isW.gx (isR.w (by assumption)) | exact isW.gF (isR.w (by assumption)) | fail "no such object") rfl rfl (Nat.le_of_ble_eq_true rfl) (rd_failAt _ D_7 (ftE_r he hp) p) (fun v_17 h_17 q_17 => ?_)
      obtain ⟨rfl, D_17, S_17⟩ := q_17
      rw [ftE_i hp0.1] at D_17
      refine r_iload_n (pc := 20) dX2_readFaultNumber_20 rfl ?_
      refine r_ireturn (pc := 21) .int dX2_readFaultNumber_21 rfl (by first | rfl | assumption) ?_
      first | exact ⟨rfl, Or.inl ⟨b_7, c_12, D_7⟩, S_7⟩ | exact ⟨rfl, Or.inr ⟨Or.inl b_7, D_7⟩, S_7⟩ | exact ⟨rfl, Or.inr ⟨Or.inr c_12, D_17⟩, S_7.trans S_17⟩ | exact ⟨rfl, Or.inr ⟨Or.inr (by omega), D_17⟩, S_7.trans S_17⟩
end mg_9k

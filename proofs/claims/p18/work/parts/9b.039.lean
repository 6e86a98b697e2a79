section mg_9k
set_option maxHeartbeats 4000000 in
set_option maxRecDepth 100000 in
theorem rd_figures {G : mG} {l : Launch} (d : Nat) {h : mH} {a : Nat} {p e o z : Int} {f : Nat → Int} (hD : isRd h a p e o z f) (hp : InR p) (he : InR e) (ho : InR o) (hz : InR z) (hf : ∀ q, InR (f q)) (hp0 : 0 ≤ p ∧ p + 20 ≤ 1000) {m : Nat} (hm : 1 ≤ m ∧ m ≤ 10) : RUNM G l (d + 1) mX2_readFigures [.ref a, .int (J (m : Int))] h (fun v h' => v = some (.int (J (rfL z f m p 0).1)) ∧ ((p < (rfL z f m p 0).2 ∧ isRd h' a (rfL z f m p 0).2 e o z f) ∨ ((rfL z f m p 0).2 = p ∧ isRd h' a z (ftE e p) o z f)) ∧ Same (dBlk a) h h') := by
  refine RUNM.of (by decide +kernel) (Nat.le_of_ble_eq_true rfl) ?_
  have rp := rfL_p (z := z) (f := f) m p 0
  refine rj_iconst (pc := 0) dX2_readFigures_0 ?_
  refine r_istore_n (pc := 1) dX2_readFigures_1 (Nat.le_of_ble_eq_true rfl) ?_
  dsimp only [lsSt, List.set, mLs, mEnt]
  refine rj_iconst (pc := 2) dX2_readFigures_2 ?_
  refine r_istore_n (pc := 3) dX2_readFigures_3 (Nat.le_of_ble_eq_true rfl) ?_
  dsimp only [lsSt, List.set, mLs, mEnt]
  refine L_readFigures d he ho hz hf hm.2 m 0 p 0 h hD (by omega) (by omega) (fun h' t' a1 a2 a3 => ?_)
  refine r_iload_n (pc := 56) dX2_readFigures_56 rfl ?_
  refine rj_if_ne (pc := 57) (tgt := 68) dX2_readFigures_57 (by decide) (by first | exact b01_r | exact bz_r | omega | (constructor <;> omega) | apply_assumption | (apply atF_r; assumption) | fail "no range") (fun c_57 => ?_) (fun c_57 => ?_)
  · try simp only [b01_0, bz_0, Classical.not_not] at c_57
    refine r_iload_n (pc := 68) dX2_readFigures_68 rfl ?_
    refine r_ireturn (pc := 69) .int dX2_readFigures_69 rfl (by first | rfl | assumption) ?_
    first | exact ⟨rfl, Or.inl ⟨by omega, a1⟩, a3⟩ | exact ⟨rfl, Or.inr ⟨by omega, by rw [show (rfL z f m p 0).2 = p by omega] at D_65; exact D_65⟩, a3.trans S_65⟩
  · try simp only [b01_0, bz_0, Classical.not_not] at c_57
    refine r_aload_n (pc := 60) dX2_readFigures_60 rfl (by first | rfl | exact isRefV_rf _) ?_
    refine r_aload_n (pc := 61) dX2_readFigures_61 rfl (by first | rfl | exact isRefV_rf _) ?_
    refine r_getf (pc := 62) dX2_readFigures_62 fX2_53 (by first | assumption | exact isI.gx (by assumption) | exact isI.gc (by assumption) | exact isW.gx (by assumption) | exact isW.gF (by assumption) | exact isW.gT (by assumption) (by omega) | exact isW.gS (by assumption) (by omega) | exact isW.gK (by assumption) (by omega) | exact isW.g1 (by assumption) | exact isW.g2 (by assumption) | exact isW.g3 (by assumption) | exact isI.gx (isW.i0 (by assumption)) | exact isI.gc (isW.i0 (by assumption)) | exact isI.gx (isW.i1 (by assumption)) | exact isI.gc (isW.i1 (by assumption)) | exact isI.gx (isW.i2 (by assumption)) | exact isI.gc (isW.i2 (by assumption)) | exact isI.gx (isW.i3 (by assumption)) | exact isI.gc (isW.i3 (by assumption)) | exact isI.gx (isW.i4 (by assumption)) | exact isI.gc (isW.i4 (by assumption)) | exact isI.gx (isW.i5 (by assumption)) | exact isI.gc (isW.i5 (by assumption)) | exact isR.gx (by assumption) | exact isRd.gx (by assumption) | exact isSp.gx (by assumption) | exact isI.gx (isR.i (by assumption)) | exact isI.gx (isRd.i (by assumption)) | exact isI.gc (isRd.i (by assumption)) | exact isI.gx (isSp.i (by assumption)) | exact isW.gx (isR.w (by assumption)) | exact isW.gF (isR.w (by assumption)) | fail "no such object") (by rfl) ?_
    refine r_callV1 (pc := 65) dX2_readFigures_65 qX2_failAt kX2_56 vX2_failAt (by first | assumption | exact isI.gx (by assumption) | exact isI.gc (by assumption) | exact isW.gx (by assumption) | exact isW.gF (by assumption) | exact isW.gT (by assumption) (by omega) | exact isW.gS (by assumption) (by omega) | exact isW.gK (by assumption) (by omega) | exact isW.g1 (by assumption) | exact isW.g2 (by assumption) | exact isW.g3 (by assumption) | exact isI.gx (isW.i0 (by assumption)) | exact isI.gc (isW.i0 (by assumption)) | exact isI.gx (isW.i1 (by assumption)) | exact isI.gc (isW.i1 (by assumption)) | exact isI.gx (isW.i2 (by assumption)) | exact isI.gc (isW.i2 (by assumption)) | exact isI.gx (isW.i3 (by assumption)) | exact isI.gc (isW.i3 (by assumption)) | exact isI.gx (isW.i4 (by assumption)) | exact isI.gc (isW.i4 (by assumption)) | exact isI.gx (isW.i5 (by assumption)) | exact isI.gc (isW.i5 (by assumption)) | exact isR.gx (by assumption) | exact isRd.gx (by assumption) | exact isSp.gx (by assumption) | exact isI.gx (isR.i (by assumption)) | exact isI.gx (isRd.i (by assumption)) | exact isI.gc (isRd.i (by assumption)) | exact isI.gx (isSp.i (by assumption)) | exact isW.gx (isR.w (by assumption)) | exact isW.gF (isR.w (by assumption)) | fail "no such object") rfl rfl (Nat.le_of_ble_eq_true rfl) (rd_failAt _ a1 he (rfL z f m p 0).2) (fun v_65 h_65 q_65 => ?_)
    obtain ⟨rfl, D_65, S_65⟩ := q_65
    refine r_iload_n (pc := 68) dX2_readFigures_68 rfl ?_
    refine r_ireturn (pc := 69) .int dX2_readFigures_69 rfl (by first | rfl | assumption) ?_
    first | exact ⟨rfl, Or.inl ⟨by omega, a1⟩, a3⟩ | exact ⟨rfl, Or.inr ⟨by omega, by rw [show (rfL z f m p 0).2 = p by omega] at D_65; exact D_65⟩, a3.trans S_65⟩
end mg_9k

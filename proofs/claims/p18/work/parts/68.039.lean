section mg_72
set_option maxHeartbeats 4000000 in
set_option maxRecDepth 100000 in
theorem m_undo {G : mG} {l : Launch} (d : Nat) {h : mH} {x s : Nat} {f4 f6 f8 f9 f10 f11 f12 f13 f14 f16 f18 : Int} {m kp was pool tape pln pap rwd rw : Nat → Int}(hB : isM h x (mFs x f4 f6 f8 f9 f10 f11 f12 f13 f14 f16 f18 s) m kp was pool tape pln pap rwd rw) (h4 : f4 = 0 ∨ f4 = 1) (hok : mOk kp) : RUNM G l (d + 3) mX11_undo [.ref x] h (fun v h' => (f4 = 0 ∧ v = some (.int (J (-3))) ∧ h' = h) ∨ (f4 = 1 ∧ v = some (.int (J (cnt (heldB kp) (kp 1).toNat))) ∧ isM h' x (mFs x f4 f6 f8 f9 f10 f11 f12 f13 f14 f16 f18 s) kp kp was pool tape pln pap rwd rw ∧ Same (mBlk x) h h')) := by
  obtain ⟨hM, k0, k1, k2, k3, k4, k5, k7⟩ := id hok
  have hB0 := hB
  dsimp only [mFs] at hB
  refine RUNM.of (by decide +kernel) (Nat.le_of_ble_eq_true rfl) ?_
  refine r_aload_n (pc := 0) dX11_undo_0 rfl (by first | rfl | exact isRefV_rf _) ?_
  refine rm_getf (pc := 1) dX11_undo_1 fX11_310 (by assumption) rfl ?_
  refine rj_if_ne (pc := 4) (tgt := 10) dX11_undo_4 (by decide) (by first | assumption | exact b01_r | exact bz_r | omega | (constructor <;> omega) | exact hM _ | exact hPo _ | exact hTa _ | exact hRo _) (fun c_4 => ?_) (fun c_4 => ?_)
  · try simp only [b01_0, bz_0, Classical.not_not] at c_4
    refine r_aload_n (pc := 10) dX11_undo_10 rfl (by first | rfl | exact isRefV_rf _) ?_
    refine rm_getf (pc := 11) dX11_undo_11 fX11_15 (by assumption) rfl ?_
    refine r_aload_n (pc := 14) dX11_undo_14 rfl (by first | rfl | exact isRefV_rf _) ?_
    refine rm_getf (pc := 15) dX11_undo_15 fX11_11 (by assumption) rfl ?_
    refine r_callS2 (pc := 18) dX11_undo_18 qX11_copies kX11_279 sX11_copies (Nat.le_of_ble_eq_true rfl) (m_copies _ (mAd_ne (by decide)) hB.g1 hB.g0 (hB.loA 0)) (fun v_18 h_18 q_18 => ?_)
    obtain ⟨rfl, G_18, S_18⟩ := q_18
    have hB_18 := hB0.cp0 S_18 G_18
    have T_18 := S_18.blk0
    refine RUN.norm (hB_18.loA 0) G_18 (f' := fun q => J (kp q)) (fun q hq => by rw [cpF_lt hq]) ?_
    replace hB_18 := hB_18.put0 kp
    refine r_aload_n (pc := 21) dX11_undo_21 rfl (by first | rfl | exact isRefV_rf _) ?_
    refine r_callV0 (pc := 22) dX11_undo_22 qX11_held kX11_276 vX11_held (by exact isM.gx (by assumption)) rfl rfl (Nat.le_of_ble_eq_true rfl) (m_held d hB_18 hM (N := (kp 1).toNat) (by omega) (by omega)) (fun v_22 h_22 q_22 => ?_)
    obtain ⟨rfl, rfl⟩ := q_22
    refine r_ireturn (pc := 25) .int dX11_undo_25 rfl (by first | rfl | assumption) ?_
    exact Or.inr ⟨by omega, rfl, hB_18, T_18.trans (Same.refl.put (mAd_blk (by decide)))⟩
  · try simp only [b01_0, bz_0, Classical.not_not] at c_4
    refine rj_bipush (pc := 7) dX11_undo_7 (by decide +kernel) ?_
    refine r_ireturn (pc := 9) .int dX11_undo_9 rfl (by first | rfl | assumption) ?_
    exact Or.inl ⟨by omega, rfl, rfl⟩
end mg_72

section mg_72
set_option maxHeartbeats 4000000 in
set_option maxRecDepth 100000 in
theorem m_image {G : mG} {l : Launch} (d : Nat) {h : mH} {x s : Nat} {f4 f6 f8 f9 f10 f11 f12 f13 f14 f16 f18 : Int} {m kp was pool tape pln pap rwd rw : Nat → Int}(hB : isM h x (mFs x f4 f6 f8 f9 f10 f11 f12 f13 f14 f16 f18 s) m kp was pool tape pln pap rwd rw) (hok : mOk m) : RUNM G l (d + 3) mX11_image [.ref x] h (fun v h' => v = some (.int (J (cnt (heldB m) (m 1).toNat))) ∧ isM h' x (mFs x 1 f6 f8 f9 f10 f11 f12 f13 f14 f16 f18 s) m m was pool tape pln pap rwd rw ∧ Same (mBlk x) h h') := by
  obtain ⟨hM, k0, k1, k2, k3, k4, k5, k7⟩ := id hok
  have hB0 := hB
  dsimp only [mFs] at hB
  refine RUNM.of (by decide +kernel) (Nat.le_of_ble_eq_true rfl) ?_
  refine r_aload_n (pc := 0) dX11_image_0 rfl (by first | rfl | exact isRefV_rf _) ?_
  refine rm_getf (pc := 1) dX11_image_1 fX11_11 (by assumption) rfl ?_
  refine r_aload_n (pc := 4) dX11_image_4 rfl (by first | rfl | exact isRefV_rf _) ?_
  refine rm_getf (pc := 5) dX11_image_5 fX11_15 (by assumption) rfl ?_
  refine r_callS2 (pc := 8) dX11_image_8 qX11_copies kX11_279 sX11_copies (Nat.le_of_ble_eq_true rfl) (m_copies _ (mAd_ne (by decide)) hB.g0 hB.g1 (hB.loA 1)) (fun v_8 h_8 q_8 => ?_)
  obtain ⟨rfl, G_8, S_8⟩ := q_8
  have hB_8 := hB0.cp1 S_8 G_8
  have T_8 := S_8.blk1
  refine RUN.norm (hB_8.loA 1) G_8 (f' := fun q => J (m q)) (fun q hq => by rw [cpF_lt hq]) ?_
  replace hB_8 := hB_8.put1 m
  dsimp only [mFs] at hB_8
  refine r_aload_n (pc := 11) dX11_image_11 rfl (by first | rfl | exact isRefV_rf _) ?_
  refine rj_iconst (pc := 12) dX11_image_12 ?_
  refine rm_putf (pc := 13) dX11_image_13 fX11_310 (by assumption) nar_J1 fit_J1 (Nat.le_of_ble_eq_true rfl) (fun h_13 hB_13 hS_13 => ?_)
  dsimp only [List.set, mFs] at hB_13
  have hB_13b : isM h_13 x (mFs x 1 f6 f8 f9 f10 f11 f12 f13 f14 f16 f18 s) m m was pool tape pln pap rwd rw := hB_13
  refine r_aload_n (pc := 16) dX11_image_16 rfl (by first | rfl | exact isRefV_rf _) ?_
  refine r_callV0 (pc := 17) dX11_image_17 qX11_held kX11_276 vX11_held (by exact isM.gx (by assumption)) rfl rfl (Nat.le_of_ble_eq_true rfl) (m_held d hB_13b hM (N := (m 1).toNat) (by omega) (by omega)) (fun v_17 h_17 q_17 => ?_)
  obtain ⟨rfl, rfl⟩ := q_17
  refine r_ireturn (pc := 20) .int dX11_image_20 rfl (by first | rfl | assumption) ?_
  exact ⟨rfl, hB_13b, (T_8.trans (Same.refl.put (mAd_blk (by decide)))).trans hS_13⟩
end mg_72

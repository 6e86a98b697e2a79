section mg_27
set_option maxHeartbeats 4000000 in
set_option maxRecDepth 100000 in
theorem m_feed {G : mG} {l : Launch} (d : Nat) {h : mH} {x s : Nat} {f4 f6 f8 f9 f10 f11 f12 f13 f14 f16 f18 : Int} {m kp was pool tape pln pap rwd rw : Nat → Int}(hB : isM h x (mFs x f4 f6 f8 f9 f10 f11 f12 f13 f14 f16 f18 s) m kp was pool tape pln pap rwd rw) {c : Int} (hc : InR c) (h0 : 0 ≤ f6) (h1 : f6 ≤ 120) : RUNM G l (d + 1) mX11_feed [.ref x, .int (J c)] h (fun v h' => v = some (.int (J (feedV f6 c))) ∧ ((¬ feedC f6 c ∧ h' = h) ∨ (feedC f6 c ∧ isM h' x (mFs x f4 (f6 + 1) f8 f9 f10 f11 f12 f13 f14 f16 f18 s) m kp was pool (updI tape f6.toNat c) pln pap rwd rw ∧ Same (mBlk x) h h'))) := by
  dsimp only [mFs] at hB
  refine RUNM.of (by decide +kernel) (Nat.le_of_ble_eq_true rfl) ?_
  refine r_iload_n (pc := 0) dX11_feed_0 rfl ?_
  refine rj_iconst (pc := 1) dX11_feed_1 ?_
  refine rj_bipush (pc := 2) dX11_feed_2 (by decide +kernel) ?_
  refine r_callS3 (pc := 4) dX11_feed_4 qX11_isIn kX11_46 sX11_isIn (Nat.le_of_ble_eq_true rfl) (m_isIn d hc (by decide) (by decide)) (fun v_4 h_4 q_4 => ?_)
  obtain ⟨rfl, rfl⟩ := q_4
  refine rj_if_ne (pc := 7) (tgt := 13) dX11_feed_7 (by decide) (by first | assumption | exact b01_r | exact bz_r | omega | (constructor <;> omega) | exact hM _ | exact hPo _ | exact hTa _ | exact hRo _) (fun c_7 => ?_) (fun c_7 => ?_)
  · try simp only [b01_0, bz_0, Classical.not_not] at c_7
    refine r_aload_n (pc := 13) dX11_feed_13 rfl (by first | rfl | exact isRefV_rf _) ?_
    refine rm_getf (pc := 14) dX11_feed_14 fX11_61 (by assumption) rfl ?_
    refine rj_bipush (pc := 17) dX11_feed_17 (by decide +kernel) ?_
    refine rj_icmp_ne (pc := 19) (tgt := 25) dX11_feed_19 (by decide) (by first | assumption | exact b01_r | exact bz_r | omega | (constructor <;> omega) | exact hM _ | exact hPo _ | exact hTa _ | exact hRo _) (by first | assumption | exact b01_r | exact bz_r | omega | (constructor <;> omega) | exact hM _ | exact hPo _ | exact hTa _ | exact hRo _) (fun c_19 => ?_) (fun c_19 => ?_)
    · refine r_aload_n (pc := 25) dX11_feed_25 rfl (by first | rfl | exact isRefV_rf _) ?_
      refine rm_getf (pc := 26) dX11_feed_26 fX11_24 (by assumption) rfl ?_
      refine r_aload_n (pc := 29) dX11_feed_29 rfl (by first | rfl | exact isRefV_rf _) ?_
      refine rm_getf (pc := 30) dX11_feed_30 fX11_61 (by assumption) rfl ?_
      refine r_iload_n (pc := 33) dX11_feed_33 rfl ?_
      first | refine rm_iast4 (pc := 34) dX11_feed_34 (by assumption) (by first | assumption | exact b01_r | exact bz_r | omega | (constructor <;> omega) | exact hM _ | exact hPo _ | exact hTa _ | exact hRo _) (by first | assumption | exact b01_r | exact bz_r | omega | (constructor <;> omega) | exact hM _ | exact hPo _ | exact hTa _ | exact hRo _) (by first | assumption | exact b01_r | exact bz_r | omega | (constructor <;> omega) | exact hM _ | exact hPo _ | exact hTa _ | exact hRo _) rfl (fun h_34 hB_34 hS_34 => ?_)
      try simp only [Int.reduceToNat] at hB_34
      refine r_aload_n (pc := 35) dX11_feed_35 rfl (by first | rfl | exact isRefV_rf _) ?_
      refine r_dup (pc := 36) dX11_feed_36 (by first | rfl | (cases ‹Option Nat› <;> rfl)) ?_
      refine rm_getf (pc := 37) dX11_feed_37 fX11_61 (by assumption) rfl ?_
      refine rj_iconst (pc := 40) dX11_feed_40 ?_
      refine rj_iadd (pc := 41) dX11_feed_41 ?_
      refine rm_putf (pc := 42) dX11_feed_42 fX11_61 (by assumption) rfl rfl (Nat.le_of_ble_eq_true rfl) (fun h_42 hB_42 hS_42 => ?_)
      dsimp only [List.set, mFs] at hB_42
      refine r_aload_n (pc := 45) dX11_feed_45 rfl (by first | rfl | exact isRefV_rf _) ?_
      refine rm_getf (pc := 46) dX11_feed_46 fX11_61 (by assumption) rfl ?_
      refine r_ireturn (pc := 49) .int dX11_feed_49 rfl (by first | rfl | assumption) ?_
      exact ⟨by unfold feedV; rw [if_pos c_7, if_neg c_19], Or.inr ⟨⟨c_7, c_19⟩, hB_42, hS_34.trans hS_42⟩⟩
    · refine rj_bipush (pc := 22) dX11_feed_22 (by decide +kernel) ?_
      refine r_ireturn (pc := 24) .int dX11_feed_24 rfl (by first | rfl | assumption) ?_
      exact ⟨by unfold feedV; rw [if_pos c_7, if_pos c_19], Or.inl ⟨fun g => g.2 c_19, rfl⟩⟩
  · try simp only [b01_0, bz_0, Classical.not_not] at c_7
    refine rj_bipush (pc := 10) dX11_feed_10 (by decide +kernel) ?_
    refine r_ireturn (pc := 12) .int dX11_feed_12 rfl (by first | rfl | assumption) ?_
    exact ⟨by unfold feedV; rw [if_neg c_7], Or.inl ⟨fun g => c_7 g.1, rfl⟩⟩
end mg_27

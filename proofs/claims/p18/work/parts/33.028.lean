section mg_36
set_option maxHeartbeats 4000000 in
set_option maxRecDepth 100000 in
theorem m_rank {G : mG} {l : Launch} (d : Nat) {h : mH} {x s : Nat} {f4 f6 f8 f9 f10 f11 f12 f13 f14 f16 f18 : Int} {m kp was pool tape pln pap rwd rw : Nat → Int}(hB : isM h x (mFs x f4 f6 f8 f9 f10 f11 f12 f13 f14 f16 f18 s) m kp was pool tape pln pap rwd rw) (hM : ∀ q, InR (m q)) (h3 : 0 ≤ m 3 ∧ m 3 ≤ 10) {t p : Int} (ht : InR t) (hp : InR p) : RUNM G l (d + 3) mX11_rank [.ref x, .int (J t), .int (J p)] h (fun v h' => v = some (.int (J (rankV m t p))) ∧ ((¬ rankDo m t p ∧ h' = h) ∨ (rankDo m t p ∧ isM h' x (mFs x f4 f6 f8 f9 f10 f11 f12 f13 f14 f16 f18 s) (updI m (1609 + 72 * t).toNat p) kp was pool tape pln pap rwd rw ∧ Same (mBlk x) h h'))) := by
  have hB0 := hB
  dsimp only [mFs] at hB
  refine RUNM.of (by decide +kernel) (Nat.le_of_ble_eq_true rfl) ?_
  refine r_aload_n (pc := 0) dX11_rank_0 rfl (by first | rfl | exact isRefV_rf _) ?_
  refine r_iload_n (pc := 1) dX11_rank_1 rfl ?_
  refine r_callV1 (pc := 2) dX11_rank_2 qX11_isTask kX11_180 vX11_isTask (by exact isM.gx (by assumption)) rfl rfl (Nat.le_of_ble_eq_true rfl) (m_isTask (d + 1) hB0 ht ⟨by omega, by omega⟩) (fun v_2 h_2 q_2 => ?_)
  obtain ⟨rfl, rfl⟩ := q_2
  refine rj_if_ne (pc := 5) (tgt := 10) dX11_rank_5 (by decide) (by first | assumption | exact b01_r | exact bz_r | omega | (constructor <;> omega) | exact hM _ | exact hPo _ | exact hTa _ | exact hRo _) (fun c_5 => ?_) (fun c_5 => ?_)
  · try simp only [b01_0, bz_0, Classical.not_not] at c_5
    refine r_iload_n (pc := 10) dX11_rank_10 rfl ?_
    refine rj_bipush (pc := 11) dX11_rank_11 (by decide +kernel) ?_
    refine rj_bipush (pc := 13) dX11_rank_13 (by decide +kernel) ?_
    refine r_callS3 (pc := 15) dX11_rank_15 qX11_isIn kX11_46 sX11_isIn (Nat.le_of_ble_eq_true rfl) (m_isIn (d + 2) hp (by decide) (by decide)) (fun v_15 h_15 q_15 => ?_)
    obtain ⟨rfl, rfl⟩ := q_15
    refine rj_if_ne (pc := 18) (tgt := 24) dX11_rank_18 (by decide) (by first | assumption | exact b01_r | exact bz_r | omega | (constructor <;> omega) | exact hM _ | exact hPo _ | exact hTa _ | exact hRo _) (fun c_18 => ?_) (fun c_18 => ?_)
    · try simp only [b01_0, bz_0, Classical.not_not] at c_18
      refine r_aload_n (pc := 24) dX11_rank_24 rfl (by first | rfl | exact isRefV_rf _) ?_
      refine r_iload_n (pc := 25) dX11_rank_25 rfl ?_
      refine r_callV1 (pc := 26) dX11_rank_26 qX11_isReady kX11_183 vX11_isReady (by exact isM.gx (by assumption)) rfl rfl (Nat.le_of_ble_eq_true rfl) (m_isReady (d + 1) hB0 hM (by omega) (by omega)) (fun v_26 h_26 q_26 => ?_)
      obtain ⟨rfl, rfl⟩ := q_26
      refine rj_if_ne (pc := 29) (tgt := 35) dX11_rank_29 (by decide) (by first | assumption | exact b01_r | exact bz_r | omega | (constructor <;> omega) | exact hM _ | exact hPo _ | exact hTa _ | exact hRo _) (fun c_29 => ?_) (fun c_29 => ?_)
      · try simp only [b01_0, bz_0, Classical.not_not] at c_29
        refine r_aload_n (pc := 35) dX11_rank_35 rfl (by first | rfl | exact isRefV_rf _) ?_
        refine rm_getf (pc := 36) dX11_rank_36 fX11_11 (by assumption) rfl ?_
        refine r_iload_n (pc := 39) dX11_rank_39 rfl ?_
        refine rj_iconst (pc := 40) dX11_rank_40 ?_
        refine rj_iconst (pc := 41) dX11_rank_41 ?_
        refine r_callS3 (pc := 42) dX11_rank_42 qX11_ofTask kX11_58 sX11_ofTask (Nat.le_of_ble_eq_true rfl) (m_ofTask (d + 2)) (fun v_42 h_42 q_42 => ?_)
        obtain ⟨rfl, rfl⟩ := q_42
        refine rj_iald (pc := 45) (j := (1609 + 72 * t).toNat) dX11_rank_45 (by first | exact isM.g0 (by assumption) | exact isM.g3 (by assumption) | exact isM.g4 (by assumption) | exact isM.g8 (by assumption) | exact isM.g7 (by assumption) | exact isM.g6 (by assumption) | exact isM.g5 (by assumption) | exact isM.g1 (by assumption) | exact isM.g2 (by assumption)) (by first | assumption | exact b01_r | exact bz_r | omega | (constructor <;> omega) | exact hM _ | exact hPo _ | exact hTa _ | exact hRo _) (by first | assumption | exact b01_r | exact bz_r | omega | (constructor <;> omega) | exact hM _ | exact hPo _ | exact hTa _ | exact hRo _) (by first | assumption | exact b01_r | exact bz_r | omega | (constructor <;> omega) | exact hM _ | exact hPo _ | exact hTa _ | exact hRo _) (by omega) ?_
        refine r_istore_n (pc := 46) dX11_rank_46 (Nat.le_of_ble_eq_true rfl) ?_
        dsimp only [lsSt, List.set, mLs, mEnt]
        refine r_aload_n (pc := 47) dX11_rank_47 rfl (by first | rfl | exact isRefV_rf _) ?_
        refine rm_getf (pc := 48) dX11_rank_48 fX11_11 (by assumption) rfl ?_
        refine r_iload_n (pc := 51) dX11_rank_51 rfl ?_
        refine rj_iconst (pc := 52) dX11_rank_52 ?_
        refine rj_iconst (pc := 53) dX11_rank_53 ?_
        refine r_callS3 (pc := 54) dX11_rank_54 qX11_ofTask kX11_58 sX11_ofTask (Nat.le_of_ble_eq_true rfl) (m_ofTask (d + 2)) (fun v_54 h_54 q_54 => ?_)
        obtain ⟨rfl, rfl⟩ := q_54
        refine r_iload_n (pc := 57) dX11_rank_57 rfl ?_
        first | refine rm_iast0 (pc := 58) (j := (1609 + 72 * t).toNat) dX11_rank_58 (by assumption) (by first | assumption | exact b01_r | exact bz_r | omega | (constructor <;> omega) | exact hM _ | exact hPo _ | exact hTa _ | exact hRo _) (by first | assumption | exact b01_r | exact bz_r | omega | (constructor <;> omega) | exact hM _ | exact hPo _ | exact hTa _ | exact hRo _) (by first | assumption | exact b01_r | exact bz_r | omega | (constructor <;> omega) | exact hM _ | exact hPo _ | exact hTa _ | exact hRo _) (by omega) (fun h_58 hB_58 hS_58 => ?_)
        refine r_iload_n (pc := 59) dX11_rank_59 rfl ?_
        refine rj_bipush (pc := 60) dX11_rank_60 (by decide +kernel) ?_
        refine rj_iadd (pc := 62) dX11_rank_62 ?_
        refine r_ireturn (pc := 63) .int dX11_rank_63 rfl (by first | rfl | assumption) ?_
        exact ⟨by unfold rankV; rw [if_pos c_5, if_pos c_18, if_pos c_29], Or.inr ⟨⟨⟨c_5, c_29⟩, c_18⟩, hB_58, hS_58⟩⟩
      · try simp only [b01_0, bz_0, Classical.not_not] at c_29
        refine rj_bipush (pc := 32) dX11_rank_32 (by decide +kernel) ?_
        refine r_ireturn (pc := 34) .int dX11_rank_34 rfl (by first | rfl | assumption) ?_
        exact ⟨by unfold rankV; rw [if_pos c_5, if_pos c_18, if_neg c_29], Or.inl ⟨fun g => c_29 g.1.2, rfl⟩⟩
    · try simp only [b01_0, bz_0, Classical.not_not] at c_18
      refine rj_bipush (pc := 21) dX11_rank_21 (by decide +kernel) ?_
      refine r_ireturn (pc := 23) .int dX11_rank_23 rfl (by first | rfl | assumption) ?_
      exact ⟨by unfold rankV; rw [if_pos c_5, if_neg c_18], Or.inl ⟨fun g => c_18 g.2, rfl⟩⟩
  · try simp only [b01_0, bz_0, Classical.not_not] at c_5
    refine rj_iconst (pc := 8) dX11_rank_8 ?_
    refine r_ireturn (pc := 9) .int dX11_rank_9 rfl (by first | rfl | assumption) ?_
    exact ⟨by unfold rankV; rw [if_neg c_5], Or.inl ⟨fun g => c_5 g.1.1, rfl⟩⟩
end mg_36

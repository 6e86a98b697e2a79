section mg_72
set_option maxHeartbeats 4000000 in
set_option maxRecDepth 100000 in
theorem m_trial {G : mG} {l : Launch} {x s : Nat} {f4 f6 f8 f9 f10 f11 f12 f13 f14 f16 f18 : Int} {kp was pool tape pln pap rwd rw : Nat → Int} (hPo : ∀ q, InR (pool q)) (h14 : InR f14) {m m' : Nat → Int} {h : mH} (hB : isM h x (mFs x f4 f6 f8 f9 f10 f11 f12 f13 f14 f16 f18 s) m kp was pool tape pln pap rwd rw) (hok : mOk m) {t n k : Int} {kk : Nat} (ht : InR t) (hn : InR n) (hk : InR k) (hR : (0 ≤ n ∧ n ≤ 100) → ticksR pool n.toNat m kk m' ∧ mOk m') : RUNM G l 403 mX11_trial [.ref x, .int (J t), .int (J n), .int (J k)] h (fun v h' => (¬ ((0 ≤ t ∧ t ≤ m 3 - 1) ∧ (0 ≤ k ∧ k ≤ 5)) ∧ v = some (.int (J (-1))) ∧ h' = h) ∨ (((0 ≤ t ∧ t ≤ m 3 - 1) ∧ (0 ≤ k ∧ k ≤ 5)) ∧ ¬ (0 ≤ n ∧ n ≤ 100) ∧ v = some (.int (J (-2))) ∧ h' = h) ∨ (((0 ≤ t ∧ t ≤ m 3 - 1) ∧ (0 ≤ k ∧ k ≤ 5)) ∧ (0 ≤ n ∧ n ≤ 100) ∧ v = some (.int (J (trialV m' t k))) ∧ (∃ was' g14, InR g14 ∧ isM h' x (mFs x f4 f6 f8 f9 f10 f11 f12 f13 g14 f16 f18 s) m kp was' pool tape pln pap rwd rw) ∧ Same (mBlk x) h h')) := by
  obtain ⟨hM, k0, k1, k2, k3, k4, k5, k7⟩ := id hok
  have hB0 := hB
  dsimp only [mFs] at hB
  refine RUNM.of (by decide +kernel) (Nat.le_of_ble_eq_true rfl) ?_
  refine r_aload_n (pc := 0) dX11_trial_0 rfl (by first | rfl | exact isRefV_rf _) ?_
  refine r_iload_n (pc := 1) dX11_trial_1 rfl ?_
  refine r_callV1 (pc := 2) dX11_trial_2 qX11_isTask kX11_180 vX11_isTask (by exact isM.gx (by assumption)) rfl rfl (Nat.le_of_ble_eq_true rfl) ((m_isTask 0 hB0 ht ⟨by omega, by omega⟩).deeper (by omega)) (fun v_2 h_2 q_2 => ?_)
  obtain ⟨rfl, rfl⟩ := q_2
  refine rj_if_eq (pc := 5) (tgt := 17) dX11_trial_5 (by decide) (by first | assumption | exact b01_r | exact bz_r | omega | (constructor <;> omega) | exact hM _ | exact hPo _ | exact hTa _ | exact hRo _) (fun c_5 => ?_) (fun c_5 => ?_)
  · try simp only [b01_0, bz_0, Classical.not_not] at c_5
    refine rj_iconst (pc := 17) dX11_trial_17 ?_
    refine r_ireturn (pc := 18) .int dX11_trial_18 rfl (by first | rfl | assumption) ?_
    first | exact Or.inl ⟨fun g => c_5 g.1, rfl, rfl⟩ | exact Or.inl ⟨fun g => c_14 g.2, rfl, rfl⟩
  · try simp only [b01_0, bz_0, Classical.not_not] at c_5
    refine r_iload_n (pc := 8) dX11_trial_8 rfl ?_
    refine rj_iconst (pc := 9) dX11_trial_9 ?_
    refine rj_iconst (pc := 10) dX11_trial_10 ?_
    refine r_callS3 (pc := 11) dX11_trial_11 qX11_isIn kX11_46 sX11_isIn (Nat.le_of_ble_eq_true rfl) ((m_isIn 0 hk (by decide) (by decide)).deeper (by omega)) (fun v_11 h_11 q_11 => ?_)
    obtain ⟨rfl, rfl⟩ := q_11
    refine rj_if_ne (pc := 14) (tgt := 19) dX11_trial_14 (by decide) (by first | assumption | exact b01_r | exact bz_r | omega | (constructor <;> omega) | exact hM _ | exact hPo _ | exact hTa _ | exact hRo _) (fun c_14 => ?_) (fun c_14 => ?_)
    · try simp only [b01_0, bz_0, Classical.not_not] at c_14
      refine r_iload_n (pc := 19) dX11_trial_19 rfl ?_
      refine rj_iconst (pc := 20) dX11_trial_20 ?_
      refine rj_bipush (pc := 21) dX11_trial_21 (by decide +kernel) ?_
      refine r_callS3 (pc := 23) dX11_trial_23 qX11_isIn kX11_46 sX11_isIn (Nat.le_of_ble_eq_true rfl) ((m_isIn 0 hn (by decide) (by decide)).deeper (by omega)) (fun v_23 h_23 q_23 => ?_)
      obtain ⟨rfl, rfl⟩ := q_23
      refine rj_if_ne (pc := 26) (tgt := 32) dX11_trial_26 (by decide) (by first | assumption | exact b01_r | exact bz_r | omega | (constructor <;> omega) | exact hM _ | exact hPo _ | exact hTa _ | exact hRo _) (fun c_26 => ?_) (fun c_26 => ?_)
      · try simp only [b01_0, bz_0, Classical.not_not] at c_26
        refine r_aload_n (pc := 32) dX11_trial_32 rfl (by first | rfl | exact isRefV_rf _) ?_
        refine rm_getf (pc := 33) dX11_trial_33 fX11_11 (by assumption) rfl ?_
        refine r_aload_n (pc := 36) dX11_trial_36 rfl (by first | rfl | exact isRefV_rf _) ?_
        refine rm_getf (pc := 37) dX11_trial_37 fX11_18 (by assumption) rfl ?_
        refine r_callS2 (pc := 40) dX11_trial_40 qX11_copies kX11_279 sX11_copies (Nat.le_of_ble_eq_true rfl) ((m_copies 0 (mAd_ne (by decide)) hB.g0 hB.g2 (hB.loA 2)).deeper (Nat.zero_le _)) (fun v_40 h_40 q_40 => ?_)
        obtain ⟨rfl, G_40, S_40⟩ := q_40
        have hB_40 := hB0.cp2 S_40 G_40
        have T_40 := S_40.blk2
        refine r_aload_n (pc := 43) dX11_trial_43 rfl (by first | rfl | exact isRefV_rf _) ?_
        refine r_iload_n (pc := 44) dX11_trial_44 rfl ?_
        refine r_callV1 (pc := 45) dX11_trial_45 qX11_ticks kX11_214 vX11_ticks (by exact isM.gx (by assumption)) rfl rfl (Nat.le_of_ble_eq_true rfl) (by have y := m_ticks (G := G) (l := l) hPo h14 (B := n.toNat) (k := kk) (by omega) hB_40 (hR c_26).1; rw [show ((n.toNat : Nat) : Int) = n by omega] at y; exact y.deeper (by omega)) (fun v_45 h_45 q_45 => ?_)
        obtain ⟨rfl, ⟨g14, hg14, hB_45⟩, S_45⟩ := q_45
        refine r_pop (pc := 48) dX11_trial_48 (by first | rfl | (cases ‹Option Nat› <;> rfl)) ?_
        refine r_aload_n (pc := 49) dX11_trial_49 rfl (by first | rfl | exact isRefV_rf _) ?_
        refine r_iload_n (pc := 50) dX11_trial_50 rfl ?_
        refine r_iload_n (pc := 51) dX11_trial_51 rfl ?_
        refine r_callV2 (pc := 52) dX11_trial_52 qX11_trialNow kX11_289 vX11_trialNow (by exact isM.gx (by assumption)) rfl rfl (Nat.le_of_ble_eq_true rfl) ((m_trialNow 0 hB_45 (hR c_26).2 ⟨by omega, by omega⟩ hk).deeper (by omega)) (fun v_52 h_52 q_52 => ?_)
        obtain ⟨rfl, rfl⟩ := q_52
        refine r_istore (pc := 55) dX11_trial_55 (Nat.le_of_ble_eq_true rfl) ?_
        dsimp only [lsSt, List.set, mLs, mEnt]
        refine r_aload_n (pc := 57) dX11_trial_57 rfl (by first | rfl | exact isRefV_rf _) ?_
        refine rm_getf (pc := 58) dX11_trial_58 fX11_18 (by assumption) rfl ?_
        refine r_aload_n (pc := 61) dX11_trial_61 rfl (by first | rfl | exact isRefV_rf _) ?_
        refine rm_getf (pc := 62) dX11_trial_62 fX11_11 (by assumption) rfl ?_
        refine r_callS2 (pc := 65) dX11_trial_65 qX11_copies kX11_279 sX11_copies (Nat.le_of_ble_eq_true rfl) ((m_copies 0 (mAd_ne (by decide)) hB_45.g2 hB_45.g0 (hB_45.loA 0)).deeper (Nat.zero_le _)) (fun v_65 h_65 q_65 => ?_)
        obtain ⟨rfl, G_65, S_65⟩ := q_65
        have hB_65 := hB_45.cp0 S_65 G_65
        have T_65 := S_65.blk0
        refine RUN.norm (hB_65.loA 0) G_65 (f' := fun q => J (m q)) (fun q hq => by rw [cpF_cp hq]) ?_
        refine r_iload (pc := 68) dX11_trial_68 rfl ?_
        refine r_ireturn (pc := 70) .int dX11_trial_70 rfl (by first | rfl | assumption) ?_
        exact Or.inr (Or.inr ⟨⟨c_5, c_14⟩, c_26, rfl, ⟨_, g14, hg14, hB_65.put0 m⟩, ((T_40.trans S_45).trans T_65).trans (Same.refl.put (mAd_blk (by decide)))⟩)
      · try simp only [b01_0, bz_0, Classical.not_not] at c_26
        refine rj_bipush (pc := 29) dX11_trial_29 (by decide +kernel) ?_
        refine r_ireturn (pc := 31) .int dX11_trial_31 rfl (by first | rfl | assumption) ?_
        exact Or.inr (Or.inl ⟨⟨c_5, c_14⟩, c_26, rfl, rfl⟩)
    · try simp only [b01_0, bz_0, Classical.not_not] at c_14
      refine rj_iconst (pc := 17) dX11_trial_17 ?_
      refine r_ireturn (pc := 18) .int dX11_trial_18 rfl (by first | rfl | assumption) ?_
      first | exact Or.inl ⟨fun g => c_5 g.1, rfl, rfl⟩ | exact Or.inl ⟨fun g => c_14 g.2, rfl, rfl⟩
end mg_72

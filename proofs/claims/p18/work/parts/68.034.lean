section mg_72
set_option maxHeartbeats 4000000 in
set_option maxRecDepth 100000 in
theorem m_would {G : mG} {l : Launch} {x s : Nat} {f4 f6 f8 f9 f10 f11 f12 f13 f14 f16 f18 : Int} {kp was pool tape pln pap rwd rw : Nat → Int} (hPo : ∀ q, InR (pool q)) {m m' : Nat → Int} {h : mH} (hB : isM h x (mFs x f4 f6 f8 f9 f10 f11 f12 f13 f14 f16 f18 s) m kp was pool tape pln pap rwd rw) (hok : mOk m) {t k : Int} (ht : InR t) (hk : InR k) (hR : openP m t → shutsR pool (-1) 61 (updI m 5 0) t m' ∧ mOk m') : RUNM G l 402 mX11_would [.ref x, .int (J t), .int (J k)] h (fun v h' => (¬ ((0 ≤ t ∧ t ≤ m 0 - 1) ∧ (0 ≤ k ∧ k ≤ 5)) ∧ v = some (.int (J (-1))) ∧ h' = h) ∨ (((0 ≤ t ∧ t ≤ m 0 - 1) ∧ (0 ≤ k ∧ k ≤ 5)) ∧ ¬ openP m t ∧ v = some (.int (J (-3))) ∧ h' = h) ∨ (((0 ≤ t ∧ t ≤ m 0 - 1) ∧ (0 ≤ k ∧ k ≤ 5)) ∧ openP m t ∧ v = some (.int (J (wouldV m' m k))) ∧ (∃ was', isM h' x (mFs x f4 f6 f8 f9 f10 f11 f12 f13 (-1) f16 f18 s) m kp was' pool tape pln pap rwd rw) ∧ Same (mBlk x) h h')) := by
  obtain ⟨hM, k0, k1, k2, k3, k4, k5, k7⟩ := id hok
  have hB0 := hB
  have ew : wouldV m' (cpF m was 2928) k = wouldV m' m k := by unfold wouldV cpF; simp
  dsimp only [mFs] at hB
  refine RUNM.of (by decide +kernel) (Nat.le_of_ble_eq_true rfl) ?_
  refine r_aload_n (pc := 0) dX11_would_0 rfl (by first | rfl | exact isRefV_rf _) ?_
  refine r_iload_n (pc := 1) dX11_would_1 rfl ?_
  refine r_callV1 (pc := 2) dX11_would_2 qX11_isScope kX11_50 vX11_isScope (by exact isM.gx (by assumption)) rfl rfl (Nat.le_of_ble_eq_true rfl) ((m_isScope 0 hB0 ht ⟨by omega, by omega⟩).deeper (by omega)) (fun v_2 h_2 q_2 => ?_)
  obtain ⟨rfl, rfl⟩ := q_2
  refine rj_if_eq (pc := 5) (tgt := 17) dX11_would_5 (by decide) (by first | assumption | exact b01_r | exact bz_r | omega | (constructor <;> omega) | exact hM _ | exact hPo _ | exact hTa _ | exact hRo _) (fun c_5 => ?_) (fun c_5 => ?_)
  · try simp only [b01_0, bz_0, Classical.not_not] at c_5
    refine rj_iconst (pc := 17) dX11_would_17 ?_
    refine r_ireturn (pc := 18) .int dX11_would_18 rfl (by first | rfl | assumption) ?_
    first | exact Or.inl ⟨fun g => c_5 g.1, rfl, rfl⟩ | exact Or.inl ⟨fun g => c_14 g.2, rfl, rfl⟩
  · try simp only [b01_0, bz_0, Classical.not_not] at c_5
    refine r_iload_n (pc := 8) dX11_would_8 rfl ?_
    refine rj_iconst (pc := 9) dX11_would_9 ?_
    refine rj_iconst (pc := 10) dX11_would_10 ?_
    refine r_callS3 (pc := 11) dX11_would_11 qX11_isIn kX11_46 sX11_isIn (Nat.le_of_ble_eq_true rfl) ((m_isIn 0 hk (by decide) (by decide)).deeper (by omega)) (fun v_11 h_11 q_11 => ?_)
    obtain ⟨rfl, rfl⟩ := q_11
    refine rj_if_ne (pc := 14) (tgt := 19) dX11_would_14 (by decide) (by first | assumption | exact b01_r | exact bz_r | omega | (constructor <;> omega) | exact hM _ | exact hPo _ | exact hTa _ | exact hRo _) (fun c_14 => ?_) (fun c_14 => ?_)
    · try simp only [b01_0, bz_0, Classical.not_not] at c_14
      refine r_aload_n (pc := 19) dX11_would_19 rfl (by first | rfl | exact isRefV_rf _) ?_
      refine r_iload_n (pc := 20) dX11_would_20 rfl ?_
      refine r_callV1 (pc := 21) dX11_would_21 qX11_isOpen kX11_146 vX11_isOpen (by exact isM.gx (by assumption)) rfl rfl (Nat.le_of_ble_eq_true rfl) ((m_isOpen 0 hB0 hM k0 ht).deeper (by omega)) (fun v_21 h_21 q_21 => ?_)
      obtain ⟨rfl, rfl⟩ := q_21
      refine rj_if_ne (pc := 24) (tgt := 30) dX11_would_24 (by decide) (by first | assumption | exact b01_r | exact bz_r | omega | (constructor <;> omega) | exact hM _ | exact hPo _ | exact hTa _ | exact hRo _) (fun c_24 => ?_) (fun c_24 => ?_)
      · try simp only [b01_0, bz_0, Classical.not_not] at c_24
        refine r_aload_n (pc := 30) dX11_would_30 rfl (by first | rfl | exact isRefV_rf _) ?_
        refine rm_getf (pc := 31) dX11_would_31 fX11_11 (by assumption) rfl ?_
        refine r_aload_n (pc := 34) dX11_would_34 rfl (by first | rfl | exact isRefV_rf _) ?_
        refine rm_getf (pc := 35) dX11_would_35 fX11_18 (by assumption) rfl ?_
        refine r_callS2 (pc := 38) dX11_would_38 qX11_copies kX11_279 sX11_copies (Nat.le_of_ble_eq_true rfl) ((m_copies 0 (mAd_ne (by decide)) hB.g0 hB.g2 (hB.loA 2)).deeper (Nat.zero_le _)) (fun v_38 h_38 q_38 => ?_)
        obtain ⟨rfl, G_38, S_38⟩ := q_38
        have hB_38 := hB0.cp2 S_38 G_38
        have T_38 := S_38.blk2
        refine r_aload_n (pc := 41) dX11_would_41 rfl (by first | rfl | exact isRefV_rf _) ?_
        refine r_iload_n (pc := 42) dX11_would_42 rfl ?_
        refine r_callV1 (pc := 43) dX11_would_43 qX11_shut kX11_283 vX11_shut (by exact isM.gx (by assumption)) rfl rfl (Nat.le_of_ble_eq_true rfl) ((m_shut (m' := m') hPo hB_38 hok ht (fun q => (hR q).1)).deeper (by omega)) (fun v_43 h_43 q_43 => ?_)
        obtain ⟨hn_43, -, -⟩ | ⟨-, rfl, hB_43, S_43⟩ := q_43
        · exact absurd c_24 hn_43
        refine r_pop (pc := 46) dX11_would_46 (by first | rfl | (cases ‹Option Nat› <;> rfl)) ?_
        refine r_aload_n (pc := 47) dX11_would_47 rfl (by first | rfl | exact isRefV_rf _) ?_
        refine r_iload_n (pc := 48) dX11_would_48 rfl ?_
        refine r_callV1 (pc := 49) dX11_would_49 qX11_wouldNow kX11_286 vX11_wouldNow (by exact isM.gx (by assumption)) rfl rfl (Nat.le_of_ble_eq_true rfl) ((m_wouldNow 0 hB_43 (hR c_24).2 hk).deeper (by omega)) (fun v_49 h_49 q_49 => ?_)
        obtain ⟨rfl, rfl⟩ := q_49
        refine r_istore_n (pc := 52) dX11_would_52 (Nat.le_of_ble_eq_true rfl) ?_
        dsimp only [lsSt, List.set, mLs, mEnt]
        refine r_aload_n (pc := 53) dX11_would_53 rfl (by first | rfl | exact isRefV_rf _) ?_
        refine rm_getf (pc := 54) dX11_would_54 fX11_18 (by assumption) rfl ?_
        refine r_aload_n (pc := 57) dX11_would_57 rfl (by first | rfl | exact isRefV_rf _) ?_
        refine rm_getf (pc := 58) dX11_would_58 fX11_11 (by assumption) rfl ?_
        refine r_callS2 (pc := 61) dX11_would_61 qX11_copies kX11_279 sX11_copies (Nat.le_of_ble_eq_true rfl) ((m_copies 0 (mAd_ne (by decide)) hB_43.g2 hB_43.g0 (hB_43.loA 0)).deeper (Nat.zero_le _)) (fun v_61 h_61 q_61 => ?_)
        obtain ⟨rfl, G_61, S_61⟩ := q_61
        have hB_61 := hB_43.cp0 S_61 G_61
        have T_61 := S_61.blk0
        refine RUN.norm (hB_61.loA 0) G_61 (f' := fun q => J (m q)) (fun q hq => by rw [cpF_cp hq]) ?_
        refine r_iload_n (pc := 64) dX11_would_64 rfl ?_
        refine r_ireturn (pc := 65) .int dX11_would_65 rfl (by first | rfl | assumption) ?_
        rw [ew]
        exact Or.inr (Or.inr ⟨⟨c_5, c_14⟩, c_24, rfl, ⟨_, hB_61.put0 m⟩, ((T_38.trans S_43).trans T_61).trans (Same.refl.put (mAd_blk (by decide)))⟩)
      · try simp only [b01_0, bz_0, Classical.not_not] at c_24
        refine rj_bipush (pc := 27) dX11_would_27 (by decide +kernel) ?_
        refine r_ireturn (pc := 29) .int dX11_would_29 rfl (by first | rfl | assumption) ?_
        exact Or.inr (Or.inl ⟨⟨c_5, c_14⟩, c_24, rfl, rfl⟩)
    · try simp only [b01_0, bz_0, Classical.not_not] at c_14
      refine rj_iconst (pc := 17) dX11_would_17 ?_
      refine r_ireturn (pc := 18) .int dX11_would_18 rfl (by first | rfl | assumption) ?_
      first | exact Or.inl ⟨fun g => c_5 g.1, rfl, rfl⟩ | exact Or.inl ⟨fun g => c_14 g.2, rfl, rfl⟩
end mg_72

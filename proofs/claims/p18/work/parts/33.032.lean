section mg_37
set_option maxHeartbeats 4000000 in
set_option maxRecDepth 100000 in
theorem m_scope {G : mG} {l : Launch} (d : Nat) {h : mH} {x s : Nat} {f4 f6 f8 f9 f10 f11 f12 f13 f14 f16 f18 : Int} {m kp was pool tape pln pap rwd rw : Nat → Int}(hB : isM h x (mFs x f4 f6 f8 f9 f10 f11 f12 f13 f14 f16 f18 s) m kp was pool tape pln pap rwd rw) (hM : ∀ q, InR (m q)) {N C : Nat} (hN : m 1 = (N : Int)) (hcap : N ≤ 90) (hC : m 0 = (C : Int)) (hC1 : 1 ≤ C) (hC2 : C ≤ 60) (hP : parOk m C) (hO : ownOk m N C) {a k : Int} (ha : InR a) (hk : InR k) : RUNM G l (d + 4) mX11_scope [.ref x, .int (J a), .int (J k)] h (fun v h' => v = some (.int (J (scopeV m N C a k))) ∧ h' = h) := by
  have hB0 := hB
  dsimp only [mFs] at hB
  refine RUNM.of (by decide +kernel) (Nat.le_of_ble_eq_true rfl) ?_
  refine r_aload_n (pc := 0) dX11_scope_0 rfl (by first | rfl | exact isRefV_rf _) ?_
  refine r_iload_n (pc := 1) dX11_scope_1 rfl ?_
  refine r_callV1 (pc := 2) dX11_scope_2 qX11_isScope kX11_50 vX11_isScope (by exact isM.gx (by assumption)) rfl rfl (Nat.le_of_ble_eq_true rfl) (m_isScope (d + 2) hB0 ha ⟨by omega, by omega⟩) (fun v_2 h_2 q_2 => ?_)
  obtain ⟨rfl, rfl⟩ := q_2
  refine rj_if_ne (pc := 5) (tgt := 10) dX11_scope_5 (by decide) (by first | assumption | exact b01_r | exact bz_r | omega | (constructor <;> omega) | exact hM _ | exact hPo _ | exact hTa _ | exact hRo _) (fun c_5 => ?_) (fun c_5 => ?_)
  · try simp only [b01_0, bz_0, Classical.not_not] at c_5
    refine r_iload_n (pc := 10) dX11_scope_10 rfl ?_
    refine rj_tsw (pc := 11) dX11_scope_11 (by first | assumption | exact b01_r | exact bz_r | omega | (constructor <;> omega) | exact hM _ | exact hPo _ | exact hTa _ | exact hRo _) (by decide) (by decide) (by decide) (fun off_11 tgt_11 ho_11 ht_11 => ?_)
    by_cases e_11_0 : k = 0
    · rw [e_11_0] at ho_11
      obtain rfl : off_11 = 37 := ho_11.symm.trans (by decide)
      obtain rfl : tgt_11 = 48 := by omega
      refine r_aload_n (pc := 48) dX11_scope_48 rfl (by first | rfl | exact isRefV_rf _) ?_
      refine rm_getf (pc := 49) dX11_scope_49 fX11_11 (by assumption) rfl ?_
      refine r_iload_n (pc := 52) dX11_scope_52 rfl ?_
      refine rj_iconst (pc := 53) dX11_scope_53 ?_
      refine r_callS2 (pc := 54) dX11_scope_54 qX11_ofScope kX11_42 sX11_ofScope (Nat.le_of_ble_eq_true rfl) (m_ofScope (d + 3)) (fun v_54 h_54 q_54 => ?_)
      obtain ⟨rfl, rfl⟩ := q_54
      refine rj_iald (pc := 57) (j := (18 + 4 * a).toNat) dX11_scope_57 (by first | exact isM.g0 (by assumption) | exact isM.g3 (by assumption) | exact isM.g4 (by assumption) | exact isM.g8 (by assumption) | exact isM.g7 (by assumption) | exact isM.g6 (by assumption) | exact isM.g5 (by assumption) | exact isM.g1 (by assumption) | exact isM.g2 (by assumption)) (by first | assumption | exact b01_r | exact bz_r | omega | (constructor <;> omega) | exact hM _ | exact hPo _ | exact hTa _ | exact hRo _) (by first | assumption | exact b01_r | exact bz_r | omega | (constructor <;> omega) | exact hM _ | exact hPo _ | exact hTa _ | exact hRo _) (by first | assumption | exact b01_r | exact bz_r | omega | (constructor <;> omega) | exact hM _ | exact hPo _ | exact hTa _ | exact hRo _) (by omega) ?_
      refine rj_if_ne (pc := 58) (tgt := 65) dX11_scope_58 (by decide) (by first | assumption | exact b01_r | exact bz_r | omega | (constructor <;> omega) | exact hM _ | exact hPo _ | exact hTa _ | exact hRo _) (fun c_58 => ?_) (fun c_58 => ?_)
      · try simp only [b01_0, bz_0, Classical.not_not] at c_58
        refine rj_iconst (pc := 65) dX11_scope_65 ?_
        refine r_ireturn (pc := 66) .int dX11_scope_66 rfl (by first | rfl | assumption) ?_
        first
        | exact ⟨by unfold scopeV; rw [if_pos c_5, if_pos e_11_0]; rw [if_pos c_58], rfl⟩
        | exact ⟨by unfold scopeV; rw [if_pos c_5, if_pos e_11_0]; rw [if_neg c_58], rfl⟩
      · try simp only [b01_0, bz_0, Classical.not_not] at c_58
        refine rj_iconst (pc := 61) dX11_scope_61 ?_
        refine r_goto (pc := 62) (tgt := 66) dX11_scope_62 (by decide) ?_
        refine r_ireturn (pc := 66) .int dX11_scope_66 rfl (by first | rfl | assumption) ?_
        first
        | exact ⟨by unfold scopeV; rw [if_pos c_5, if_pos e_11_0]; rw [if_pos c_58], rfl⟩
        | exact ⟨by unfold scopeV; rw [if_pos c_5, if_pos e_11_0]; rw [if_neg c_58], rfl⟩
    by_cases e_11_1 : k = 1
    · rw [e_11_1] at ho_11
      obtain rfl : off_11 = 56 := ho_11.symm.trans (by decide)
      obtain rfl : tgt_11 = 67 := by omega
      refine r_aload_n (pc := 67) dX11_scope_67 rfl (by first | rfl | exact isRefV_rf _) ?_
      refine rm_getf (pc := 68) dX11_scope_68 fX11_11 (by assumption) rfl ?_
      refine r_iload_n (pc := 71) dX11_scope_71 rfl ?_
      refine rj_iconst (pc := 72) dX11_scope_72 ?_
      refine r_callS2 (pc := 73) dX11_scope_73 qX11_ofScope kX11_42 sX11_ofScope (Nat.le_of_ble_eq_true rfl) (m_ofScope (d + 3)) (fun v_73 h_73 q_73 => ?_)
      obtain ⟨rfl, rfl⟩ := q_73
      refine rj_iald (pc := 76) (j := (19 + 4 * a).toNat) dX11_scope_76 (by first | exact isM.g0 (by assumption) | exact isM.g3 (by assumption) | exact isM.g4 (by assumption) | exact isM.g8 (by assumption) | exact isM.g7 (by assumption) | exact isM.g6 (by assumption) | exact isM.g5 (by assumption) | exact isM.g1 (by assumption) | exact isM.g2 (by assumption)) (by first | assumption | exact b01_r | exact bz_r | omega | (constructor <;> omega) | exact hM _ | exact hPo _ | exact hTa _ | exact hRo _) (by first | assumption | exact b01_r | exact bz_r | omega | (constructor <;> omega) | exact hM _ | exact hPo _ | exact hTa _ | exact hRo _) (by first | assumption | exact b01_r | exact bz_r | omega | (constructor <;> omega) | exact hM _ | exact hPo _ | exact hTa _ | exact hRo _) (by omega) ?_
      refine r_ireturn (pc := 77) .int dX11_scope_77 rfl (by first | rfl | assumption) ?_
      exact ⟨by unfold scopeV; rw [if_pos c_5, if_neg e_11_0, if_pos e_11_1], rfl⟩
    by_cases e_11_2 : k = 2
    · rw [e_11_2] at ho_11
      obtain rfl : off_11 = 67 := ho_11.symm.trans (by decide)
      obtain rfl : tgt_11 = 78 := by omega
      refine r_aload_n (pc := 78) dX11_scope_78 rfl (by first | rfl | exact isRefV_rf _) ?_
      refine r_iload_n (pc := 79) dX11_scope_79 rfl ?_
      refine r_callV1 (pc := 80) dX11_scope_80 qX11_entries kX11_241 vX11_entries (by exact isM.gx (by assumption)) rfl rfl (Nat.le_of_ble_eq_true rfl) (m_entries (d + 1) hB0 hM hN hcap hC hC1 hC2 ha) (fun v_80 h_80 q_80 => ?_)
      obtain ⟨rfl, rfl⟩ := q_80
      refine r_ireturn (pc := 83) .int dX11_scope_83 rfl (by first | rfl | assumption) ?_
      exact ⟨by unfold scopeV; rw [if_pos c_5, if_neg e_11_0, if_neg e_11_1, if_pos e_11_2], rfl⟩
    by_cases e_11_3 : k = 3
    · rw [e_11_3] at ho_11
      obtain rfl : off_11 = 73 := ho_11.symm.trans (by decide)
      obtain rfl : tgt_11 = 84 := by omega
      refine r_aload_n (pc := 84) dX11_scope_84 rfl (by first | rfl | exact isRefV_rf _) ?_
      refine r_iload_n (pc := 85) dX11_scope_85 rfl ?_
      refine r_callV1 (pc := 86) dX11_scope_86 qX11_heldIn kX11_249 vX11_heldIn (by exact isM.gx (by assumption)) rfl rfl (Nat.le_of_ble_eq_true rfl) (m_heldIn d hB0 hM hN hcap hC2 hP hO ha) (fun v_86 h_86 q_86 => ?_)
      obtain ⟨rfl, rfl⟩ := q_86
      refine r_ireturn (pc := 89) .int dX11_scope_89 rfl (by first | rfl | assumption) ?_
      exact ⟨by unfold scopeV; rw [if_pos c_5, if_neg e_11_0, if_neg e_11_1, if_neg e_11_2, if_pos e_11_3], rfl⟩
    by_cases e_11_4 : k = 4
    · rw [e_11_4] at ho_11
      obtain rfl : off_11 = 79 := ho_11.symm.trans (by decide)
      obtain rfl : tgt_11 = 90 := by omega
      refine r_aload_n (pc := 90) dX11_scope_90 rfl (by first | rfl | exact isRefV_rf _) ?_
      refine r_iload_n (pc := 91) dX11_scope_91 rfl ?_
      refine r_callV1 (pc := 92) dX11_scope_92 qX11_above kX11_252 vX11_above (by exact isM.gx (by assumption)) rfl rfl (Nat.le_of_ble_eq_true rfl) (m_above (d + 2) hB0 hC2 hP (by omega) (by omega)) (fun v_92 h_92 q_92 => ?_)
      obtain ⟨rfl, rfl⟩ := q_92
      refine r_ireturn (pc := 95) .int dX11_scope_95 rfl (by first | rfl | assumption) ?_
      exact ⟨by unfold scopeV; rw [if_pos c_5, if_neg e_11_0, if_neg e_11_1, if_neg e_11_2, if_neg e_11_3, if_pos e_11_4], rfl⟩
    by_cases e_11_5 : k = 5
    · rw [e_11_5] at ho_11
      obtain rfl : off_11 = 85 := ho_11.symm.trans (by decide)
      obtain rfl : tgt_11 = 96 := by omega
      refine r_aload_n (pc := 96) dX11_scope_96 rfl (by first | rfl | exact isRefV_rf _) ?_
      refine rm_getf (pc := 97) dX11_scope_97 fX11_11 (by assumption) rfl ?_
      refine r_iload_n (pc := 100) dX11_scope_100 rfl ?_
      refine rj_iconst (pc := 101) dX11_scope_101 ?_
      refine r_callS2 (pc := 102) dX11_scope_102 qX11_ofScope kX11_42 sX11_ofScope (Nat.le_of_ble_eq_true rfl) (m_ofScope (d + 3)) (fun v_102 h_102 q_102 => ?_)
      obtain ⟨rfl, rfl⟩ := q_102
      refine rj_iald (pc := 105) (j := (21 + 4 * a).toNat) dX11_scope_105 (by first | exact isM.g0 (by assumption) | exact isM.g3 (by assumption) | exact isM.g4 (by assumption) | exact isM.g8 (by assumption) | exact isM.g7 (by assumption) | exact isM.g6 (by assumption) | exact isM.g5 (by assumption) | exact isM.g1 (by assumption) | exact isM.g2 (by assumption)) (by first | assumption | exact b01_r | exact bz_r | omega | (constructor <;> omega) | exact hM _ | exact hPo _ | exact hTa _ | exact hRo _) (by first | assumption | exact b01_r | exact bz_r | omega | (constructor <;> omega) | exact hM _ | exact hPo _ | exact hTa _ | exact hRo _) (by first | assumption | exact b01_r | exact bz_r | omega | (constructor <;> omega) | exact hM _ | exact hPo _ | exact hTa _ | exact hRo _) (by omega) ?_
      refine r_ireturn (pc := 106) .int dX11_scope_106 rfl (by first | rfl | assumption) ?_
      exact ⟨by unfold scopeV; rw [if_pos c_5, if_neg e_11_0, if_neg e_11_1, if_neg e_11_2, if_neg e_11_3, if_neg e_11_4, if_pos e_11_5], rfl⟩
    have eo_11 : off_11 = 96 := by
      rw [← ho_11]
      unfold tswOff
      rw [if_pos (by omega)]
    obtain rfl : tgt_11 = 107 := by omega
    refine rj_iconst (pc := 107) dX11_scope_107 ?_
    refine r_ireturn (pc := 108) .int dX11_scope_108 rfl (by first | rfl | assumption) ?_
    exact ⟨by unfold scopeV; rw [if_pos c_5, if_neg e_11_0, if_neg e_11_1, if_neg e_11_2, if_neg e_11_3, if_neg e_11_4, if_neg e_11_5], rfl⟩
  · try simp only [b01_0, bz_0, Classical.not_not] at c_5
    refine rj_iconst (pc := 8) dX11_scope_8 ?_
    refine r_ireturn (pc := 9) .int dX11_scope_9 rfl (by first | rfl | assumption) ?_
    exact ⟨by unfold scopeV; rw [if_neg c_5], rfl⟩
end mg_37

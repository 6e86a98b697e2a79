section mg_45
set_option maxHeartbeats 4000000 in
set_option maxRecDepth 100000 in
theorem m_thing {G : mG} {l : Launch} (d : Nat) {h : mH} {x s : Nat} {f4 f6 f8 f9 f10 f11 f12 f13 f14 f16 f18 : Int} {m kp was pool tape pln pap rwd rw : Nat → Int}(hB : isM h x (mFs x f4 f6 f8 f9 f10 f11 f12 f13 f14 f16 f18 s) m kp was pool tape pln pap rwd rw) (hM : ∀ q, InR (m q)) (h1 : 0 ≤ m 1 ∧ m 1 ≤ 90) (h11 : 0 ≤ f11 ∧ f11 ≤ 99999) {t k : Int} (ht : InR t) (hk : InR k) (hX : 0 ≤ t ∧ t ≤ m 1 - 1 → 0 ≤ m (262 + 14 * t).toNat ∧ m (262 + 14 * t).toNat ≤ m (263 + 14 * t).toNat ∧ txOk 3 pool pool tape (m (263 + 14 * t).toNat)) : RUNM G l (d + 33) mX11_thing [.ref x, .int (J t), .int (J k)] h (fun v h' => v = some (.int (J (thingV m pool t k f11 f12))) ∧ (isMs h' x f4 f6 f14 f16 f18 m kp was pool tape pln pap rwd rw ∧ Same (mBlk x) h h')) := by
  have hB0 := hB
  dsimp only [mFs] at hB
  refine RUNM.of (by decide +kernel) (Nat.le_of_ble_eq_true rfl) ?_
  refine r_aload_n (pc := 0) dX11_thing_0 rfl (by first | rfl | exact isRefV_rf _) ?_
  refine r_iload_n (pc := 1) dX11_thing_1 rfl ?_
  refine r_callV1 (pc := 2) dX11_thing_2 qX11_isThing kX11_238 vX11_isThing (by exact isM.gx (by assumption)) rfl rfl (Nat.le_of_ble_eq_true rfl) (m_isThing (d + 31) hB0 ht ⟨by omega, by omega⟩) (fun v_2 h_2 q_2 => ?_)
  obtain ⟨rfl, rfl⟩ := q_2
  refine rj_if_ne (pc := 5) (tgt := 10) dX11_thing_5 (by decide) (by first | assumption | exact b01_r | exact bz_r | omega | (constructor <;> omega) | exact hM _ | exact hPo _ | exact hTa _ | exact hRo _) (fun c_5 => ?_) (fun c_5 => ?_)
  · try simp only [b01_0, bz_0, Classical.not_not] at c_5
    have hT := hX c_5
    refine r_iload_n (pc := 10) dX11_thing_10 rfl ?_
    refine rj_tsw (pc := 11) dX11_thing_11 (by first | assumption | exact b01_r | exact bz_r | omega | (constructor <;> omega) | exact hM _ | exact hPo _ | exact hTa _ | exact hRo _) (by decide) (by decide) (by decide) (fun off_11 tgt_11 ho_11 ht_11 => ?_)
    by_cases e_11_0 : k = 0
    · rw [e_11_0] at ho_11
      obtain rfl : off_11 = 29 := ho_11.symm.trans (by decide)
      obtain rfl : tgt_11 = 40 := by omega
      refine r_aload_n (pc := 40) dX11_thing_40 rfl (by first | rfl | exact isRefV_rf _) ?_
      refine r_iload_n (pc := 41) dX11_thing_41 rfl ?_
      refine r_callV1 (pc := 42) dX11_thing_42 qX11_isHeld kX11_119 vX11_isHeld (by exact isM.gx (by assumption)) rfl rfl (Nat.le_of_ble_eq_true rfl) (m_isHeld (d + 31) hB0 hM (by omega) (by omega)) (fun v_42 h_42 q_42 => ?_)
      obtain ⟨rfl, rfl⟩ := q_42
      refine rj_if_eq (pc := 45) (tgt := 52) dX11_thing_45 (by decide) (by first | assumption | exact b01_r | exact bz_r | omega | (constructor <;> omega) | exact hM _ | exact hPo _ | exact hTa _ | exact hRo _) (fun c_45 => ?_) (fun c_45 => ?_)
      · try simp only [b01_0, bz_0, Classical.not_not] at c_45
        refine rj_iconst (pc := 52) dX11_thing_52 ?_
        refine r_ireturn (pc := 53) .int dX11_thing_53 rfl (by first | rfl | assumption) ?_
        first
        | exact ⟨by unfold thingV; rw [if_pos c_5, if_pos e_11_0, if_pos c_45], ⟨_, _, _, _, _, _, _, h11, hB0⟩, Same.refl⟩
        | exact ⟨by unfold thingV; rw [if_pos c_5, if_pos e_11_0, if_neg c_45], ⟨_, _, _, _, _, _, _, h11, hB0⟩, Same.refl⟩
      · try simp only [b01_0, bz_0, Classical.not_not] at c_45
        refine rj_iconst (pc := 48) dX11_thing_48 ?_
        refine r_goto (pc := 49) (tgt := 53) dX11_thing_49 (by decide) ?_
        refine r_ireturn (pc := 53) .int dX11_thing_53 rfl (by first | rfl | assumption) ?_
        first
        | exact ⟨by unfold thingV; rw [if_pos c_5, if_pos e_11_0, if_pos c_45], ⟨_, _, _, _, _, _, _, h11, hB0⟩, Same.refl⟩
        | exact ⟨by unfold thingV; rw [if_pos c_5, if_pos e_11_0, if_neg c_45], ⟨_, _, _, _, _, _, _, h11, hB0⟩, Same.refl⟩
    by_cases e_11_1 : k = 1
    · rw [e_11_1] at ho_11
      obtain rfl : off_11 = 43 := ho_11.symm.trans (by decide)
      obtain rfl : tgt_11 = 54 := by omega
      refine r_aload_n (pc := 54) dX11_thing_54 rfl (by first | rfl | exact isRefV_rf _) ?_
      refine rm_getf (pc := 55) dX11_thing_55 fX11_11 (by assumption) rfl ?_
      refine r_iload_n (pc := 58) dX11_thing_58 rfl ?_
      refine rj_iconst (pc := 59) dX11_thing_59 ?_
      refine rj_iconst (pc := 60) dX11_thing_60 ?_
      refine r_callS3 (pc := 61) dX11_thing_61 qX11_ofThing kX11_54 sX11_ofThing (Nat.le_of_ble_eq_true rfl) (m_ofThing (d + 32)) (fun v_61 h_61 q_61 => ?_)
      obtain ⟨rfl, rfl⟩ := q_61
      refine rj_iald (pc := 64) (j := (259 + 14 * t).toNat) dX11_thing_64 (by first | exact isM.g0 (by assumption) | exact isM.g3 (by assumption) | exact isM.g4 (by assumption) | exact isM.g8 (by assumption) | exact isM.g7 (by assumption) | exact isM.g6 (by assumption) | exact isM.g5 (by assumption) | exact isM.g1 (by assumption) | exact isM.g2 (by assumption)) (by first | assumption | exact b01_r | exact bz_r | omega | (constructor <;> omega) | exact hM _ | exact hPo _ | exact hTa _ | exact hRo _) (by first | assumption | exact b01_r | exact bz_r | omega | (constructor <;> omega) | exact hM _ | exact hPo _ | exact hTa _ | exact hRo _) (by first | assumption | exact b01_r | exact bz_r | omega | (constructor <;> omega) | exact hM _ | exact hPo _ | exact hTa _ | exact hRo _) (by omega) ?_
      refine r_ireturn (pc := 65) .int dX11_thing_65 rfl (by first | rfl | assumption) ?_
      exact ⟨by unfold thingV; rw [if_pos c_5, if_neg e_11_0, if_pos e_11_1], ⟨_, _, _, _, _, _, _, h11, hB0⟩, Same.refl⟩
    by_cases e_11_2 : k = 2
    · rw [e_11_2] at ho_11
      obtain rfl : off_11 = 55 := ho_11.symm.trans (by decide)
      obtain rfl : tgt_11 = 66 := by omega
      refine r_aload_n (pc := 66) dX11_thing_66 rfl (by first | rfl | exact isRefV_rf _) ?_
      refine rm_getf (pc := 67) dX11_thing_67 fX11_11 (by assumption) rfl ?_
      refine r_iload_n (pc := 70) dX11_thing_70 rfl ?_
      refine rj_bipush (pc := 71) dX11_thing_71 (by decide +kernel) ?_
      refine rj_iconst (pc := 73) dX11_thing_73 ?_
      refine r_callS3 (pc := 74) dX11_thing_74 qX11_ofThing kX11_54 sX11_ofThing (Nat.le_of_ble_eq_true rfl) (m_ofThing (d + 32)) (fun v_74 h_74 q_74 => ?_)
      obtain ⟨rfl, rfl⟩ := q_74
      refine rj_iald (pc := 77) (j := (264 + 14 * t).toNat) dX11_thing_77 (by first | exact isM.g0 (by assumption) | exact isM.g3 (by assumption) | exact isM.g4 (by assumption) | exact isM.g8 (by assumption) | exact isM.g7 (by assumption) | exact isM.g6 (by assumption) | exact isM.g5 (by assumption) | exact isM.g1 (by assumption) | exact isM.g2 (by assumption)) (by first | assumption | exact b01_r | exact bz_r | omega | (constructor <;> omega) | exact hM _ | exact hPo _ | exact hTa _ | exact hRo _) (by first | assumption | exact b01_r | exact bz_r | omega | (constructor <;> omega) | exact hM _ | exact hPo _ | exact hTa _ | exact hRo _) (by first | assumption | exact b01_r | exact bz_r | omega | (constructor <;> omega) | exact hM _ | exact hPo _ | exact hTa _ | exact hRo _) (by omega) ?_
      refine r_ireturn (pc := 78) .int dX11_thing_78 rfl (by first | rfl | assumption) ?_
      exact ⟨by unfold thingV; rw [if_pos c_5, if_neg e_11_0, if_neg e_11_1, if_pos e_11_2], ⟨_, _, _, _, _, _, _, h11, hB0⟩, Same.refl⟩
    by_cases e_11_3 : k = 3
    · rw [e_11_3] at ho_11
      obtain rfl : off_11 = 68 := ho_11.symm.trans (by decide)
      obtain rfl : tgt_11 = 79 := by omega
      refine r_aload_n (pc := 79) dX11_thing_79 rfl (by first | rfl | exact isRefV_rf _) ?_
      refine r_aload_n (pc := 80) dX11_thing_80 rfl (by first | rfl | exact isRefV_rf _) ?_
      refine rm_getf (pc := 81) dX11_thing_81 fX11_11 (by assumption) rfl ?_
      refine r_iload_n (pc := 84) dX11_thing_84 rfl ?_
      refine rj_iconst (pc := 85) dX11_thing_85 ?_
      refine rj_iconst (pc := 86) dX11_thing_86 ?_
      refine r_callS3 (pc := 87) dX11_thing_87 qX11_ofThing kX11_54 sX11_ofThing (Nat.le_of_ble_eq_true rfl) (m_ofThing (d + 32)) (fun v_87 h_87 q_87 => ?_)
      obtain ⟨rfl, rfl⟩ := q_87
      refine rj_iald (pc := 90) (j := (262 + 14 * t).toNat) dX11_thing_90 (by first | exact isM.g0 (by assumption) | exact isM.g3 (by assumption) | exact isM.g4 (by assumption) | exact isM.g8 (by assumption) | exact isM.g7 (by assumption) | exact isM.g6 (by assumption) | exact isM.g5 (by assumption) | exact isM.g1 (by assumption) | exact isM.g2 (by assumption)) (by first | assumption | exact b01_r | exact bz_r | omega | (constructor <;> omega) | exact hM _ | exact hPo _ | exact hTa _ | exact hRo _) (by first | assumption | exact b01_r | exact bz_r | omega | (constructor <;> omega) | exact hM _ | exact hPo _ | exact hTa _ | exact hRo _) (by first | assumption | exact b01_r | exact bz_r | omega | (constructor <;> omega) | exact hM _ | exact hPo _ | exact hTa _ | exact hRo _) (by omega) ?_
      refine r_aload_n (pc := 91) dX11_thing_91 rfl (by first | rfl | exact isRefV_rf _) ?_
      refine rm_getf (pc := 92) dX11_thing_92 fX11_11 (by assumption) rfl ?_
      refine r_iload_n (pc := 95) dX11_thing_95 rfl ?_
      refine rj_iconst (pc := 96) dX11_thing_96 ?_
      refine rj_iconst (pc := 97) dX11_thing_97 ?_
      refine r_callS3 (pc := 98) dX11_thing_98 qX11_ofThing kX11_54 sX11_ofThing (Nat.le_of_ble_eq_true rfl) (m_ofThing (d + 32)) (fun v_98 h_98 q_98 => ?_)
      obtain ⟨rfl, rfl⟩ := q_98
      refine rj_iald (pc := 101) (j := (263 + 14 * t).toNat) dX11_thing_101 (by first | exact isM.g0 (by assumption) | exact isM.g3 (by assumption) | exact isM.g4 (by assumption) | exact isM.g8 (by assumption) | exact isM.g7 (by assumption) | exact isM.g6 (by assumption) | exact isM.g5 (by assumption) | exact isM.g1 (by assumption) | exact isM.g2 (by assumption)) (by first | assumption | exact b01_r | exact bz_r | omega | (constructor <;> omega) | exact hM _ | exact hPo _ | exact hTa _ | exact hRo _) (by first | assumption | exact b01_r | exact bz_r | omega | (constructor <;> omega) | exact hM _ | exact hPo _ | exact hTa _ | exact hRo _) (by first | assumption | exact b01_r | exact bz_r | omega | (constructor <;> omega) | exact hM _ | exact hPo _ | exact hTa _ | exact hRo _) (by omega) ?_
      refine r_callV2 (pc := 102) dX11_thing_102 qX11_stepsIn kX11_226 vX11_stepsIn (by exact isM.gx (by assumption)) rfl rfl (Nat.le_of_ble_eq_true rfl) (m_stepsInS d hB0 hT.2.2 hT.1 hT.2.1 h11) (fun v_102 h_102 q_102 => ?_)
      obtain ⟨rfl, hB_102, hS_102⟩ := q_102
      refine r_ireturn (pc := 105) .int dX11_thing_105 rfl (by first | rfl | assumption) ?_
      exact ⟨by unfold thingV; rw [if_pos c_5, if_neg e_11_0, if_neg e_11_1, if_neg e_11_2, if_pos e_11_3], hB_102, hS_102⟩
    have eo_11 : off_11 = 95 := by
      rw [← ho_11]
      unfold tswOff
      rw [if_pos (by omega)]
    obtain rfl : tgt_11 = 106 := by omega
    refine rj_iconst (pc := 106) dX11_thing_106 ?_
    refine r_ireturn (pc := 107) .int dX11_thing_107 rfl (by first | rfl | assumption) ?_
    exact ⟨by unfold thingV; rw [if_pos c_5, if_neg e_11_0, if_neg e_11_1, if_neg e_11_2, if_neg e_11_3], ⟨_, _, _, _, _, _, _, h11, hB0⟩, Same.refl⟩
  · try simp only [b01_0, bz_0, Classical.not_not] at c_5
    refine rj_iconst (pc := 8) dX11_thing_8 ?_
    refine r_ireturn (pc := 9) .int dX11_thing_9 rfl (by first | rfl | assumption) ?_
    exact ⟨by unfold thingV; rw [if_neg c_5], ⟨_, _, _, _, _, _, _, h11, hB0⟩, Same.refl⟩
end mg_45

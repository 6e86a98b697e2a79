/-! ===== contracts of the reference: thing, of ===== -/
/-- the reference's world, whatever its reader holds -/
def isMs (h : mH) (x : Nat) (f4 f6 f14 f16 f18 : Int) (m kp was pool tape pln pap rwd rw : Nat → Int) : Prop := ∃ (f8 f9 f10 f11 f12 f13 : Int) (s : Nat), (0 ≤ f11 ∧ f11 ≤ 99999) ∧ isM h x (mFs x f4 f6 f8 f9 f10 f11 f12 f13 f14 f16 f18 s) m kp was pool tape pln pap rwd rw
def textOk (m pool : Nat → Int) (A B : Int) : Prop := 0 ≤ A ∧ A ≤ B ∧ txOk 3 pool pool pool B
def thingV (m pool : Nat → Int) (t k f11 f12 : Int) : Int := if 0 ≤ t ∧ t ≤ m 1 - 1 then (if k = 0 then (if m (258 + 14 * t).toNat = 0 then 0 else 1) else if k = 1 then m (259 + 14 * t).toNat else if k = 2 then m (264 + 14 * t).toNat else if k = 3 then stepsInV pool (m (262 + 14 * t).toNat) (m (263 + 14 * t).toNat) f11 f12 else -1) else -1
set_option maxHeartbeats 4000000 in
set_option maxRecDepth 100000 in
theorem m_stepsInS {G : mG} {l : Launch} (d : Nat) {h : mH} {x s : Nat} {f4 f6 f8 f9 f10 f11 f12 f13 f14 f16 f18 : Int} {m kp was pool tape pln pap rwd rw : Nat → Int}(hB : isM h x (mFs x f4 f6 f8 f9 f10 f11 f12 f13 f14 f16 f18 s) m kp was pool tape pln pap rwd rw) {a b : Int} (hT : txOk 3 pool pool tape b) (h0 : 0 ≤ a) (h1 : a ≤ b) (h2 : 0 ≤ f11 ∧ f11 ≤ 99999) : RUNM G l (d + 32) mX11_stepsIn [.ref x, .int (J a), .int (J b)] h (fun v h' => v = some (.int (J (stepsInV pool a b f11 f12))) ∧ (isMs h' x f4 f6 f14 f16 f18 m kp was pool tape pln pap rwd rw ∧ Same (mBlk x) h h')) :=
  (m_stepsIn d hB hT h0 h1 h2.1 h2.2).mono (fun v h' g => ⟨g.1, g.2.elim (fun e => by rw [e.2]; exact ⟨⟨_, _, _, _, _, _, _, h2, hB⟩, Same.refl⟩) (fun e => ⟨⟨_, _, _, _, _, _, _, ⟨((stepsW_p (sr := pool) (len := b) (w := 0) (it := true)) (a, -1, f11, f12, 90) ⟨h0, h1, Int.le_refl _, (by show (-1 : Int) ≤ b; omega), h2.1, h2.2, (by show (0 : Int) ≤ 90; decide), (by show (90 : Int) ≤ a + 90; omega)⟩).1.2.2.2.2.1, ((stepsW_p (sr := pool) (len := b) (w := 0) (it := true)) (a, -1, f11, f12, 90) ⟨h0, h1, Int.le_refl _, (by show (-1 : Int) ≤ b; omega), h2.1, h2.2, (by show (0 : Int) ≤ 90; decide), (by show (90 : Int) ≤ a + 90; omega)⟩).1.2.2.2.2.2.1⟩, e.2.1⟩, e.2.2⟩)⟩)
set_option maxHeartbeats 4000000 in
set_option maxRecDepth 100000 in
theorem m_thing {G : mG} {l : Launch} (d : Nat) {h : mH} {x s : Nat} {f4 f6 f8 f9 f10 f11 f12 f13 f14 f16 f18 : Int} {m kp was pool tape pln pap rwd rw : Nat → Int}(hB : isM h x (mFs x f4 f6 f8 f9 f10 f11 f12 f13 f14 f16 f18 s) m kp was pool tape pln pap rwd rw) (hM : ∀ q, InR (m q)) (h1 : 0 ≤ m 1 ∧ m 1 ≤ 90) (h11 : 0 ≤ f11 ∧ f11 ≤ 99999) {t k : Int} (ht : InR t) (hk : InR k) (hX : 0 ≤ t ∧ t ≤ m 1 - 1 → 0 ≤ m (262 + 14 * t).toNat ∧ m (262 + 14 * t).toNat ≤ m (263 + 14 * t).toNat ∧ txOk 3 pool pool tape (m (263 + 14 * t).toNat)) : RUNM G l (d + 33) mX11_thing [.ref x, .int (J t), .int (J k)] h (fun v h' => v = some (.int (J (thingV m pool t k f11 f12))) ∧ (isMs h' x f4 f6 f14 f16 f18 m kp was pool tape pln pap rwd rw ∧ Same (mBlk x) h h')) := by
  have hB0 := hB
  dsimp only [mFs] at hB
  refine RUNM.of (by decide +kernel) (Nat.le_of_ble_eq_true rfl) ?_
  refine r_aload_n (pc := 0) dX11_thing_0 rfl (by first | rfl | exact isRefV_rf _) ?_
  refine r_iload_n (pc := 1) dX11_thing_1 rfl ?_
  refine r_callV1 (pc := 2) dX11_thing_2 qX11_isThing kX11_238 vX11_isThing (by exact isM.gx (by assumption)) rfl rfl (Nat.le_of_ble_eq_true rfl) (m_isThing (d + 31) hB0 ht ⟨by omega, by omega⟩) (fun v_2 h_2 q_2 => ?_)
  obtain ⟨rfl, rfl⟩ := q_2
  refine rj_if_ne (pc := 5) (tgt := 10) dX11_thing_5 (by decide) (by first | assumption | exact b01_r | exact bz_r | omega | (constructor <;> omega) | exact hM _ | exact hPo _ | exact hTa _ | exact hRo _) (fun c_5 => ?_) (fun c_5 => ?_)
  · try simp only [b01_0, bz_0, Classical.not_not] at c_5
    have hT := hX c_5
    refine r_iload_n (pc := 10) dX11_thing_10 rfl ?_
    refine rj_tsw (pc := 11) dX11_thing_11 (by first | assumption | exact b01_r | exact bz_r | omega | (constructor <;> omega) | exact hM _ | exact hPo _ | exact hTa _ | exact hRo _) (by decide) (by decide) (by decide) (fun off_11 tgt_11 ho_11 ht_11 => ?_)
    by_cases e_11_0 : k = 0
    · rw [e_11_0] at ho_11
      obtain rfl : off_11 = 29 := ho_11.symm.trans (by decide)
      obtain rfl : tgt_11 = 40 := by omega
      refine r_aload_n (pc := 40) dX11_thing_40 rfl (by first | rfl | exact isRefV_rf _) ?_
      refine r_iload_n (pc := 41) dX11_thing_41 rfl ?_
      refine r_callV1 (pc := 42) dX11_thing_42 qX11_isHeld kX11_119 vX11_isHeld (by exact isM.gx (by assumption)) rfl rfl (Nat.le_of_ble_eq_true rfl) (m_isHeld (d + 31) hB0 hM (by omega) (by omega)) (fun v_42 h_42 q_42 => ?_)
      obtain ⟨rfl, rfl⟩ := q_42
      refine rj_if_eq (pc := 45) (tgt := 52) dX11_thing_45 (by decide) (by first | assumption | exact b01_r | exact bz_r | omega | (constructor <;> omega) | exact hM _ | exact hPo _ | exact hTa _ | exact hRo _) (fun c_45 => ?_) (fun c_45 => ?_)
      · try simp only [b01_0, bz_0, Classical.not_not] at c_45
        refine rj_iconst (pc := 52) dX11_thing_52 ?_
        refine r_ireturn (pc := 53) .int dX11_thing_53 rfl (by first | rfl | assumption) ?_
        first
        | exact ⟨by unfold thingV; rw [if_pos c_5, if_pos e_11_0, if_pos c_45], ⟨_, _, _, _, _, _, _, h11, hB0⟩, Same.refl⟩
        | exact ⟨by unfold thingV; rw [if_pos c_5, if_pos e_11_0, if_neg c_45], ⟨_, _, _, _, _, _, _, h11, hB0⟩, Same.refl⟩
      · try simp only [b01_0, bz_0, Classical.not_not] at c_45
        refine rj_iconst (pc := 48) dX11_thing_48 ?_
        refine r_goto (pc := 49) (tgt := 53) dX11_thing_49 (by decide) ?_
        refine r_ireturn (pc := 53) .int dX11_thing_53 rfl (by first | rfl | assumption) ?_
        first
        | exact ⟨by unfold thingV; rw [if_pos c_5, if_pos e_11_0, if_pos c_45], ⟨_, _, _, _, _, _, _, h11, hB0⟩, Same.refl⟩
        | exact ⟨by unfold thingV; rw [if_pos c_5, if_pos e_11_0, if_neg c_45], ⟨_, _, _, _, _, _, _, h11, hB0⟩, Same.refl⟩
    by_cases e_11_1 : k = 1
    · rw [e_11_1] at ho_11
      obtain rfl : off_11 = 43 := ho_11.symm.trans (by decide)
      obtain rfl : tgt_11 = 54 := by omega
      refine r_aload_n (pc := 54) dX11_thing_54 rfl (by first | rfl | exact isRefV_rf _) ?_
      refine rm_getf (pc := 55) dX11_thing_55 fX11_11 (by assumption) rfl ?_
      refine r_iload_n (pc := 58) dX11_thing_58 rfl ?_
      refine rj_iconst (pc := 59) dX11_thing_59 ?_
      refine rj_iconst (pc := 60) dX11_thing_60 ?_
      refine r_callS3 (pc := 61) dX11_thing_61 qX11_ofThing kX11_54 sX11_ofThing (Nat.le_of_ble_eq_true rfl) (m_ofThing (d + 32)) (fun v_61 h_61 q_61 => ?_)
      obtain ⟨rfl, rfl⟩ := q_61
      refine rj_iald (pc := 64) (j := (259 + 14 * t).toNat) dX11_thing_64 (by first | exact isM.g0 (by assumption) | exact isM.g3 (by assumption) | exact isM.g4 (by assumption) | exact isM.g8 (by assumption) | exact isM.g7 (by assumption) | exact isM.g6 (by assumption) | exact isM.g5 (by assumption) | exact isM.g1 (by assumption) | exact isM.g2 (by assumption)) (by first | assumption | exact b01_r | exact bz_r | omega | (constructor <;> omega) | exact hM _ | exact hPo _ | exact hTa _ | exact hRo _) (by first | assumption | exact b01_r | exact bz_r | omega | (constructor <;> omega) | exact hM _ | exact hPo _ | exact hTa _ | exact hRo _) (by first | assumption | exact b01_r | exact bz_r | omega | (constructor <;> omega) | exact hM _ | exact hPo _ | exact hTa _ | exact hRo _) (by omega) ?_
      refine r_ireturn (pc := 65) .int dX11_thing_65 rfl (by first | rfl | assumption) ?_
      exact ⟨by unfold thingV; rw [if_pos c_5, if_neg e_11_0, if_pos e_11_1], ⟨_, _, _, _, _, _, _, h11, hB0⟩, Same.refl⟩
    by_cases e_11_2 : k = 2
    · rw [e_11_2] at ho_11
      obtain rfl : off_11 = 55 := ho_11.symm.trans (by decide)
      obtain rfl : tgt_11 = 66 := by omega
      refine r_aload_n (pc := 66) dX11_thing_66 rfl (by first | rfl | exact isRefV_rf _) ?_
      refine rm_getf (pc := 67) dX11_thing_67 fX11_11 (by assumption) rfl ?_
      refine r_iload_n (pc := 70) dX11_thing_70 rfl ?_
      refine rj_bipush (pc := 71) dX11_thing_71 (by decide +kernel) ?_
      refine rj_iconst (pc := 73) dX11_thing_73 ?_
      refine r_callS3 (pc := 74) dX11_thing_74 qX11_ofThing kX11_54 sX11_ofThing (Nat.le_of_ble_eq_true rfl) (m_ofThing (d + 32)) (fun v_74 h_74 q_74 => ?_)
      obtain ⟨rfl, rfl⟩ := q_74
      refine rj_iald (pc := 77) (j := (264 + 14 * t).toNat) dX11_thing_77 (by first | exact isM.g0 (by assumption) | exact isM.g3 (by assumption) | exact isM.g4 (by assumption) | exact isM.g8 (by assumption) | exact isM.g7 (by assumption) | exact isM.g6 (by assumption) | exact isM.g5 (by assumption) | exact isM.g1 (by assumption) | exact isM.g2 (by assumption)) (by first | assumption | exact b01_r | exact bz_r | omega | (constructor <;> omega) | exact hM _ | exact hPo _ | exact hTa _ | exact hRo _) (by first | assumption | exact b01_r | exact bz_r | omega | (constructor <;> omega) | exact hM _ | exact hPo _ | exact hTa _ | exact hRo _) (by first | assumption | exact b01_r | exact bz_r | omega | (constructor <;> omega) | exact hM _ | exact hPo _ | exact hTa _ | exact hRo _) (by omega) ?_
      refine r_ireturn (pc := 78) .int dX11_thing_78 rfl (by first | rfl | assumption) ?_
      exact ⟨by unfold thingV; rw [if_pos c_5, if_neg e_11_0, if_neg e_11_1, if_pos e_11_2], ⟨_, _, _, _, _, _, _, h11, hB0⟩, Same.refl⟩
    by_cases e_11_3 : k = 3
    · rw [e_11_3] at ho_11
      obtain rfl : off_11 = 68 := ho_11.symm.trans (by decide)
      obtain rfl : tgt_11 = 79 := by omega
      refine r_aload_n (pc := 79) dX11_thing_79 rfl (by first | rfl | exact isRefV_rf _) ?_
      refine r_aload_n (pc := 80) dX11_thing_80 rfl (by first | rfl | exact isRefV_rf _) ?_
      refine rm_getf (pc := 81) dX11_thing_81 fX11_11 (by assumption) rfl ?_
      refine r_iload_n (pc := 84) dX11_thing_84 rfl ?_
      refine rj_iconst (pc := 85) dX11_thing_85 ?_
      refine rj_iconst (pc := 86) dX11_thing_86 ?_
      refine r_callS3 (pc := 87) dX11_thing_87 qX11_ofThing kX11_54 sX11_ofThing (Nat.le_of_ble_eq_true rfl) (m_ofThing (d + 32)) (fun v_87 h_87 q_87 => ?_)
      obtain ⟨rfl, rfl⟩ := q_87
      refine rj_iald (pc := 90) (j := (262 + 14 * t).toNat) dX11_thing_90 (by first | exact isM.g0 (by assumption) | exact isM.g3 (by assumption) | exact isM.g4 (by assumption) | exact isM.g8 (by assumption) | exact isM.g7 (by assumption) | exact isM.g6 (by assumption) | exact isM.g5 (by assumption) | exact isM.g1 (by assumption) | exact isM.g2 (by assumption)) (by first | assumption | exact b01_r | exact bz_r | omega | (constructor <;> omega) | exact hM _ | exact hPo _ | exact hTa _ | exact hRo _) (by first | assumption | exact b01_r | exact bz_r | omega | (constructor <;> omega) | exact hM _ | exact hPo _ | exact hTa _ | exact hRo _) (by first | assumption | exact b01_r | exact bz_r | omega | (constructor <;> omega) | exact hM _ | exact hPo _ | exact hTa _ | exact hRo _) (by omega) ?_
      refine r_aload_n (pc := 91) dX11_thing_91 rfl (by first | rfl | exact isRefV_rf _) ?_
      refine rm_getf (pc := 92) dX11_thing_92 fX11_11 (by assumption) rfl ?_
      refine r_iload_n (pc := 95) dX11_thing_95 rfl ?_
      refine rj_iconst (pc := 96) dX11_thing_96 ?_
      refine rj_iconst (pc := 97) dX11_thing_97 ?_
      refine r_callS3 (pc := 98) dX11_thing_98 qX11_ofThing kX11_54 sX11_ofThing (Nat.le_of_ble_eq_true rfl) (m_ofThing (d + 32)) (fun v_98 h_98 q_98 => ?_)
      obtain ⟨rfl, rfl⟩ := q_98
      refine rj_iald (pc := 101) (j := (263 + 14 * t).toNat) dX11_thing_101 (by first | exact isM.g0 (by assumption) | exact isM.g3 (by assumption) | exact isM.g4 (by assumption) | exact isM.g8 (by assumption) | exact isM.g7 (by assumption) | exact isM.g6 (by assumption) | exact isM.g5 (by assumption) | exact isM.g1 (by assumption) | exact isM.g2 (by assumption)) (by first | assumption | exact b01_r | exact bz_r | omega | (constructor <;> omega) | exact hM _ | exact hPo _ | exact hTa _ | exact hRo _) (by first | assumption | exact b01_r | exact bz_r | omega | (constructor <;> omega) | exact hM _ | exact hPo _ | exact hTa _ | exact hRo _) (by first | assumption | exact b01_r | exact bz_r | omega | (constructor <;> omega) | exact hM _ | exact hPo _ | exact hTa _ | exact hRo _) (by omega) ?_
      refine r_callV2 (pc := 102) dX11_thing_102 qX11_stepsIn kX11_226 vX11_stepsIn (by exact isM.gx (by assumption)) rfl rfl (Nat.le_of_ble_eq_true rfl) (m_stepsInS d hB0 hT.2.2 hT.1 hT.2.1 h11) (fun v_102 h_102 q_102 => ?_)
      obtain ⟨rfl, hB_102, hS_102⟩ := q_102
      refine r_ireturn (pc := 105) .int dX11_thing_105 rfl (by first | rfl | assumption) ?_
      exact ⟨by unfold thingV; rw [if_pos c_5, if_neg e_11_0, if_neg e_11_1, if_neg e_11_2, if_pos e_11_3], hB_102, hS_102⟩
    have eo_11 : off_11 = 95 := by
      rw [← ho_11]
      unfold tswOff
      rw [if_pos (by omega)]
    obtain rfl : tgt_11 = 106 := by omega
    refine rj_iconst (pc := 106) dX11_thing_106 ?_
    refine r_ireturn (pc := 107) .int dX11_thing_107 rfl (by first | rfl | assumption) ?_
    exact ⟨by unfold thingV; rw [if_pos c_5, if_neg e_11_0, if_neg e_11_1, if_neg e_11_2, if_neg e_11_3], ⟨_, _, _, _, _, _, _, h11, hB0⟩, Same.refl⟩
  · try simp only [b01_0, bz_0, Classical.not_not] at c_5
    refine rj_iconst (pc := 8) dX11_thing_8 ?_
    refine r_ireturn (pc := 9) .int dX11_thing_9 rfl (by first | rfl | assumption) ?_
    exact ⟨by unfold thingV; rw [if_neg c_5], ⟨_, _, _, _, _, _, _, h11, hB0⟩, Same.refl⟩
def ofV (m pool : Nat → Int) (C : Nat) (t k f11 f12 : Int) : Int := if 0 ≤ t ∧ t ≤ m 3 - 1 then (if k = 0 then m (1610 + 72 * t).toNat else if k = 1 then m (1609 + 72 * t).toNat + 100 else if k = 2 then m (1612 + 72 * t).toNat else if k = 3 then m (1608 + 72 * t).toNat else if k = 4 then cnt (shutB m t) C else if k = 5 then m (1615 + 72 * t).toNat else if k = 6 then m (1614 + 72 * t).toNat else if k = 7 then stepsInV pool (m (1616 + 72 * t).toNat) (m (1617 + 72 * t).toNat) f11 f12 else -1) else -1
set_option maxHeartbeats 4000000 in
set_option maxRecDepth 100000 in
theorem m_of {G : mG} {l : Launch} (d : Nat) {h : mH} {x s : Nat} {f4 f6 f8 f9 f10 f11 f12 f13 f14 f16 f18 : Int} {m kp was pool tape pln pap rwd rw : Nat → Int}(hB : isM h x (mFs x f4 f6 f8 f9 f10 f11 f12 f13 f14 f16 f18 s) m kp was pool tape pln pap rwd rw) (hM : ∀ q, InR (m q)) (h3 : 0 ≤ m 3 ∧ m 3 ≤ 10) {C : Nat} (hC : m 0 = (C : Int)) (hC2 : C ≤ 60) (h11 : 0 ≤ f11 ∧ f11 ≤ 99999) {t k : Int} (ht : InR t) (hk : InR k) (hX : 0 ≤ t ∧ t ≤ m 3 - 1 → 0 ≤ m (1616 + 72 * t).toNat ∧ m (1616 + 72 * t).toNat ≤ m (1617 + 72 * t).toNat ∧ txOk 3 pool pool tape (m (1617 + 72 * t).toNat)) : RUNM G l (d + 33) mX11_of [.ref x, .int (J t), .int (J k)] h (fun v h' => v = some (.int (J (ofV m pool C t k f11 f12))) ∧ (isMs h' x f4 f6 f14 f16 f18 m kp was pool tape pln pap rwd rw ∧ Same (mBlk x) h h')) := by
  have hB0 := hB
  dsimp only [mFs] at hB
  refine RUNM.of (by decide +kernel) (Nat.le_of_ble_eq_true rfl) ?_
  refine r_aload_n (pc := 0) dX11_of_0 rfl (by first | rfl | exact isRefV_rf _) ?_
  refine r_iload_n (pc := 1) dX11_of_1 rfl ?_
  refine r_callV1 (pc := 2) dX11_of_2 qX11_isTask kX11_180 vX11_isTask (by exact isM.gx (by assumption)) rfl rfl (Nat.le_of_ble_eq_true rfl) (m_isTask (d + 31) hB0 ht ⟨by omega, by omega⟩) (fun v_2 h_2 q_2 => ?_)
  obtain ⟨rfl, rfl⟩ := q_2
  refine rj_if_ne (pc := 5) (tgt := 10) dX11_of_5 (by decide) (by first | assumption | exact b01_r | exact bz_r | omega | (constructor <;> omega) | exact hM _ | exact hPo _ | exact hTa _ | exact hRo _) (fun c_5 => ?_) (fun c_5 => ?_)
  · try simp only [b01_0, bz_0, Classical.not_not] at c_5
    have hT := hX c_5
    refine r_iload_n (pc := 10) dX11_of_10 rfl ?_
    refine rj_tsw (pc := 11) dX11_of_11 (by first | assumption | exact b01_r | exact bz_r | omega | (constructor <;> omega) | exact hM _ | exact hPo _ | exact hTa _ | exact hRo _) (by decide) (by decide) (by decide) (fun off_11 tgt_11 ho_11 ht_11 => ?_)
    by_cases e_11_0 : k = 0
    · rw [e_11_0] at ho_11
      obtain rfl : off_11 = 45 := ho_11.symm.trans (by decide)
      obtain rfl : tgt_11 = 56 := by omega
      refine r_aload_n (pc := 56) dX11_of_56 rfl (by first | rfl | exact isRefV_rf _) ?_
      refine rm_getf (pc := 57) dX11_of_57 fX11_11 (by assumption) rfl ?_
      refine r_iload_n (pc := 60) dX11_of_60 rfl ?_
      refine rj_iconst (pc := 61) dX11_of_61 ?_
      refine rj_iconst (pc := 62) dX11_of_62 ?_
      refine r_callS3 (pc := 63) dX11_of_63 qX11_ofTask kX11_58 sX11_ofTask (Nat.le_of_ble_eq_true rfl) (m_ofTask (d + 32)) (fun v_63 h_63 q_63 => ?_)
      obtain ⟨rfl, rfl⟩ := q_63
      refine rj_iald (pc := 66) (j := (1610 + 72 * t).toNat) dX11_of_66 (by first | exact isM.g0 (by assumption) | exact isM.g3 (by assumption) | exact isM.g4 (by assumption) | exact isM.g8 (by assumption) | exact isM.g7 (by assumption) | exact isM.g6 (by assumption) | exact isM.g5 (by assumption) | exact isM.g1 (by assumption) | exact isM.g2 (by assumption)) (by first | assumption | exact b01_r | exact bz_r | omega | (constructor <;> omega) | exact hM _ | exact hPo _ | exact hTa _ | exact hRo _) (by first | assumption | exact b01_r | exact bz_r | omega | (constructor <;> omega) | exact hM _ | exact hPo _ | exact hTa _ | exact hRo _) (by first | assumption | exact b01_r | exact bz_r | omega | (constructor <;> omega) | exact hM _ | exact hPo _ | exact hTa _ | exact hRo _) (by omega) ?_
      refine r_ireturn (pc := 67) .int dX11_of_67 rfl (by first | rfl | assumption) ?_
      exact ⟨by unfold ofV; rw [if_pos c_5, if_pos e_11_0], ⟨_, _, _, _, _, _, _, h11, hB0⟩, Same.refl⟩
    by_cases e_11_1 : k = 1
    · rw [e_11_1] at ho_11
      obtain rfl : off_11 = 57 := ho_11.symm.trans (by decide)
      obtain rfl : tgt_11 = 68 := by omega
      refine r_aload_n (pc := 68) dX11_of_68 rfl (by first | rfl | exact isRefV_rf _) ?_
      refine rm_getf (pc := 69) dX11_of_69 fX11_11 (by assumption) rfl ?_
      refine r_iload_n (pc := 72) dX11_of_72 rfl ?_
      refine rj_iconst (pc := 73) dX11_of_73 ?_
      refine rj_iconst (pc := 74) dX11_of_74 ?_
      refine r_callS3 (pc := 75) dX11_of_75 qX11_ofTask kX11_58 sX11_ofTask (Nat.le_of_ble_eq_true rfl) (m_ofTask (d + 32)) (fun v_75 h_75 q_75 => ?_)
      obtain ⟨rfl, rfl⟩ := q_75
      refine rj_iald (pc := 78) (j := (1609 + 72 * t).toNat) dX11_of_78 (by first | exact isM.g0 (by assumption) | exact isM.g3 (by assumption) | exact isM.g4 (by assumption) | exact isM.g8 (by assumption) | exact isM.g7 (by assumption) | exact isM.g6 (by assumption) | exact isM.g5 (by assumption) | exact isM.g1 (by assumption) | exact isM.g2 (by assumption)) (by first | assumption | exact b01_r | exact bz_r | omega | (constructor <;> omega) | exact hM _ | exact hPo _ | exact hTa _ | exact hRo _) (by first | assumption | exact b01_r | exact bz_r | omega | (constructor <;> omega) | exact hM _ | exact hPo _ | exact hTa _ | exact hRo _) (by first | assumption | exact b01_r | exact bz_r | omega | (constructor <;> omega) | exact hM _ | exact hPo _ | exact hTa _ | exact hRo _) (by omega) ?_
      refine rj_bipush (pc := 79) dX11_of_79 (by decide +kernel) ?_
      refine rj_iadd (pc := 81) dX11_of_81 ?_
      refine r_ireturn (pc := 82) .int dX11_of_82 rfl (by first | rfl | assumption) ?_
      exact ⟨by unfold ofV; rw [if_pos c_5, if_neg e_11_0, if_pos e_11_1], ⟨_, _, _, _, _, _, _, h11, hB0⟩, Same.refl⟩
    by_cases e_11_2 : k = 2
    · rw [e_11_2] at ho_11
      obtain rfl : off_11 = 72 := ho_11.symm.trans (by decide)
      obtain rfl : tgt_11 = 83 := by omega
      refine r_aload_n (pc := 83) dX11_of_83 rfl (by first | rfl | exact isRefV_rf _) ?_
      refine rm_getf (pc := 84) dX11_of_84 fX11_11 (by assumption) rfl ?_
      refine r_iload_n (pc := 87) dX11_of_87 rfl ?_
      refine rj_iconst (pc := 88) dX11_of_88 ?_
      refine rj_iconst (pc := 89) dX11_of_89 ?_
      refine r_callS3 (pc := 90) dX11_of_90 qX11_ofTask kX11_58 sX11_ofTask (Nat.le_of_ble_eq_true rfl) (m_ofTask (d + 32)) (fun v_90 h_90 q_90 => ?_)
      obtain ⟨rfl, rfl⟩ := q_90
      refine rj_iald (pc := 93) (j := (1612 + 72 * t).toNat) dX11_of_93 (by first | exact isM.g0 (by assumption) | exact isM.g3 (by assumption) | exact isM.g4 (by assumption) | exact isM.g8 (by assumption) | exact isM.g7 (by assumption) | exact isM.g6 (by assumption) | exact isM.g5 (by assumption) | exact isM.g1 (by assumption) | exact isM.g2 (by assumption)) (by first | assumption | exact b01_r | exact bz_r | omega | (constructor <;> omega) | exact hM _ | exact hPo _ | exact hTa _ | exact hRo _) (by first | assumption | exact b01_r | exact bz_r | omega | (constructor <;> omega) | exact hM _ | exact hPo _ | exact hTa _ | exact hRo _) (by first | assumption | exact b01_r | exact bz_r | omega | (constructor <;> omega) | exact hM _ | exact hPo _ | exact hTa _ | exact hRo _) (by omega) ?_
      refine r_ireturn (pc := 94) .int dX11_of_94 rfl (by first | rfl | assumption) ?_
      exact ⟨by unfold ofV; rw [if_pos c_5, if_neg e_11_0, if_neg e_11_1, if_pos e_11_2], ⟨_, _, _, _, _, _, _, h11, hB0⟩, Same.refl⟩
    by_cases e_11_3 : k = 3
    · rw [e_11_3] at ho_11
      obtain rfl : off_11 = 84 := ho_11.symm.trans (by decide)
      obtain rfl : tgt_11 = 95 := by omega
      refine r_aload_n (pc := 95) dX11_of_95 rfl (by first | rfl | exact isRefV_rf _) ?_
      refine rm_getf (pc := 96) dX11_of_96 fX11_11 (by assumption) rfl ?_
      refine r_iload_n (pc := 99) dX11_of_99 rfl ?_
      refine rj_iconst (pc := 100) dX11_of_100 ?_
      refine rj_iconst (pc := 101) dX11_of_101 ?_
      refine r_callS3 (pc := 102) dX11_of_102 qX11_ofTask kX11_58 sX11_ofTask (Nat.le_of_ble_eq_true rfl) (m_ofTask (d + 32)) (fun v_102 h_102 q_102 => ?_)
      obtain ⟨rfl, rfl⟩ := q_102
      refine rj_iald (pc := 105) (j := (1608 + 72 * t).toNat) dX11_of_105 (by first | exact isM.g0 (by assumption) | exact isM.g3 (by assumption) | exact isM.g4 (by assumption) | exact isM.g8 (by assumption) | exact isM.g7 (by assumption) | exact isM.g6 (by assumption) | exact isM.g5 (by assumption) | exact isM.g1 (by assumption) | exact isM.g2 (by assumption)) (by first | assumption | exact b01_r | exact bz_r | omega | (constructor <;> omega) | exact hM _ | exact hPo _ | exact hTa _ | exact hRo _) (by first | assumption | exact b01_r | exact bz_r | omega | (constructor <;> omega) | exact hM _ | exact hPo _ | exact hTa _ | exact hRo _) (by first | assumption | exact b01_r | exact bz_r | omega | (constructor <;> omega) | exact hM _ | exact hPo _ | exact hTa _ | exact hRo _) (by omega) ?_
      refine r_ireturn (pc := 106) .int dX11_of_106 rfl (by first | rfl | assumption) ?_
      exact ⟨by unfold ofV; rw [if_pos c_5, if_neg e_11_0, if_neg e_11_1, if_neg e_11_2, if_pos e_11_3], ⟨_, _, _, _, _, _, _, h11, hB0⟩, Same.refl⟩
    by_cases e_11_4 : k = 4
    · rw [e_11_4] at ho_11
      obtain rfl : off_11 = 96 := ho_11.symm.trans (by decide)
      obtain rfl : tgt_11 = 107 := by omega
      refine r_aload_n (pc := 107) dX11_of_107 rfl (by first | rfl | exact isRefV_rf _) ?_
      refine r_iload_n (pc := 108) dX11_of_108 rfl ?_
      refine r_callV1 (pc := 109) dX11_of_109 qX11_notShut kX11_223 vX11_notShut (by exact isM.gx (by assumption)) rfl rfl (Nat.le_of_ble_eq_true rfl) (m_notShut (d + 30) hB0 hM hC hC2 ht) (fun v_109 h_109 q_109 => ?_)
      obtain ⟨rfl, rfl⟩ := q_109
      refine r_ireturn (pc := 112) .int dX11_of_112 rfl (by first | rfl | assumption) ?_
      exact ⟨by unfold ofV; rw [if_pos c_5, if_neg e_11_0, if_neg e_11_1, if_neg e_11_2, if_neg e_11_3, if_pos e_11_4], ⟨_, _, _, _, _, _, _, h11, hB0⟩, Same.refl⟩
    by_cases e_11_5 : k = 5
    · rw [e_11_5] at ho_11
      obtain rfl : off_11 = 102 := ho_11.symm.trans (by decide)
      obtain rfl : tgt_11 = 113 := by omega
      refine r_aload_n (pc := 113) dX11_of_113 rfl (by first | rfl | exact isRefV_rf _) ?_
      refine rm_getf (pc := 114) dX11_of_114 fX11_11 (by assumption) rfl ?_
      refine r_iload_n (pc := 117) dX11_of_117 rfl ?_
      refine rj_bipush (pc := 118) dX11_of_118 (by decide +kernel) ?_
      refine rj_iconst (pc := 120) dX11_of_120 ?_
      refine r_callS3 (pc := 121) dX11_of_121 qX11_ofTask kX11_58 sX11_ofTask (Nat.le_of_ble_eq_true rfl) (m_ofTask (d + 32)) (fun v_121 h_121 q_121 => ?_)
      obtain ⟨rfl, rfl⟩ := q_121
      refine rj_iald (pc := 124) (j := (1615 + 72 * t).toNat) dX11_of_124 (by first | exact isM.g0 (by assumption) | exact isM.g3 (by assumption) | exact isM.g4 (by assumption) | exact isM.g8 (by assumption) | exact isM.g7 (by assumption) | exact isM.g6 (by assumption) | exact isM.g5 (by assumption) | exact isM.g1 (by assumption) | exact isM.g2 (by assumption)) (by first | assumption | exact b01_r | exact bz_r | omega | (constructor <;> omega) | exact hM _ | exact hPo _ | exact hTa _ | exact hRo _) (by first | assumption | exact b01_r | exact bz_r | omega | (constructor <;> omega) | exact hM _ | exact hPo _ | exact hTa _ | exact hRo _) (by first | assumption | exact b01_r | exact bz_r | omega | (constructor <;> omega) | exact hM _ | exact hPo _ | exact hTa _ | exact hRo _) (by omega) ?_
      refine r_ireturn (pc := 125) .int dX11_of_125 rfl (by first | rfl | assumption) ?_
      exact ⟨by unfold ofV; rw [if_pos c_5, if_neg e_11_0, if_neg e_11_1, if_neg e_11_2, if_neg e_11_3, if_neg e_11_4, if_pos e_11_5], ⟨_, _, _, _, _, _, _, h11, hB0⟩, Same.refl⟩
    by_cases e_11_6 : k = 6
    · rw [e_11_6] at ho_11
      obtain rfl : off_11 = 115 := ho_11.symm.trans (by decide)
      obtain rfl : tgt_11 = 126 := by omega
      refine r_aload_n (pc := 126) dX11_of_126 rfl (by first | rfl | exact isRefV_rf _) ?_
      refine rm_getf (pc := 127) dX11_of_127 fX11_11 (by assumption) rfl ?_
      refine r_iload_n (pc := 130) dX11_of_130 rfl ?_
      refine rj_bipush (pc := 131) dX11_of_131 (by decide +kernel) ?_
      refine rj_iconst (pc := 133) dX11_of_133 ?_
      refine r_callS3 (pc := 134) dX11_of_134 qX11_ofTask kX11_58 sX11_ofTask (Nat.le_of_ble_eq_true rfl) (m_ofTask (d + 32)) (fun v_134 h_134 q_134 => ?_)
      obtain ⟨rfl, rfl⟩ := q_134
      refine rj_iald (pc := 137) (j := (1614 + 72 * t).toNat) dX11_of_137 (by first | exact isM.g0 (by assumption) | exact isM.g3 (by assumption) | exact isM.g4 (by assumption) | exact isM.g8 (by assumption) | exact isM.g7 (by assumption) | exact isM.g6 (by assumption) | exact isM.g5 (by assumption) | exact isM.g1 (by assumption) | exact isM.g2 (by assumption)) (by first | assumption | exact b01_r | exact bz_r | omega | (constructor <;> omega) | exact hM _ | exact hPo _ | exact hTa _ | exact hRo _) (by first | assumption | exact b01_r | exact bz_r | omega | (constructor <;> omega) | exact hM _ | exact hPo _ | exact hTa _ | exact hRo _) (by first | assumption | exact b01_r | exact bz_r | omega | (constructor <;> omega) | exact hM _ | exact hPo _ | exact hTa _ | exact hRo _) (by omega) ?_
      refine r_ireturn (pc := 138) .int dX11_of_138 rfl (by first | rfl | assumption) ?_
      exact ⟨by unfold ofV; rw [if_pos c_5, if_neg e_11_0, if_neg e_11_1, if_neg e_11_2, if_neg e_11_3, if_neg e_11_4, if_neg e_11_5, if_pos e_11_6], ⟨_, _, _, _, _, _, _, h11, hB0⟩, Same.refl⟩
    by_cases e_11_7 : k = 7
    · rw [e_11_7] at ho_11
      obtain rfl : off_11 = 128 := ho_11.symm.trans (by decide)
      obtain rfl : tgt_11 = 139 := by omega
      refine r_aload_n (pc := 139) dX11_of_139 rfl (by first | rfl | exact isRefV_rf _) ?_
      refine r_aload_n (pc := 140) dX11_of_140 rfl (by first | rfl | exact isRefV_rf _) ?_
      refine rm_getf (pc := 141) dX11_of_141 fX11_11 (by assumption) rfl ?_
      refine r_iload_n (pc := 144) dX11_of_144 rfl ?_
      refine rj_bipush (pc := 145) dX11_of_145 (by decide +kernel) ?_
      refine rj_iconst (pc := 147) dX11_of_147 ?_
      refine r_callS3 (pc := 148) dX11_of_148 qX11_ofTask kX11_58 sX11_ofTask (Nat.le_of_ble_eq_true rfl) (m_ofTask (d + 32)) (fun v_148 h_148 q_148 => ?_)
      obtain ⟨rfl, rfl⟩ := q_148
      refine rj_iald (pc := 151) (j := (1616 + 72 * t).toNat) dX11_of_151 (by first | exact isM.g0 (by assumption) | exact isM.g3 (by assumption) | exact isM.g4 (by assumption) | exact isM.g8 (by assumption) | exact isM.g7 (by assumption) | exact isM.g6 (by assumption) | exact isM.g5 (by assumption) | exact isM.g1 (by assumption) | exact isM.g2 (by assumption)) (by first | assumption | exact b01_r | exact bz_r | omega | (constructor <;> omega) | exact hM _ | exact hPo _ | exact hTa _ | exact hRo _) (by first | assumption | exact b01_r | exact bz_r | omega | (constructor <;> omega) | exact hM _ | exact hPo _ | exact hTa _ | exact hRo _) (by first | assumption | exact b01_r | exact bz_r | omega | (constructor <;> omega) | exact hM _ | exact hPo _ | exact hTa _ | exact hRo _) (by omega) ?_
      refine r_aload_n (pc := 152) dX11_of_152 rfl (by first | rfl | exact isRefV_rf _) ?_
      refine rm_getf (pc := 153) dX11_of_153 fX11_11 (by assumption) rfl ?_
      refine r_iload_n (pc := 156) dX11_of_156 rfl ?_
      refine rj_bipush (pc := 157) dX11_of_157 (by decide +kernel) ?_
      refine rj_iconst (pc := 159) dX11_of_159 ?_
      refine r_callS3 (pc := 160) dX11_of_160 qX11_ofTask kX11_58 sX11_ofTask (Nat.le_of_ble_eq_true rfl) (m_ofTask (d + 32)) (fun v_160 h_160 q_160 => ?_)
      obtain ⟨rfl, rfl⟩ := q_160
      refine rj_iald (pc := 163) (j := (1617 + 72 * t).toNat) dX11_of_163 (by first | exact isM.g0 (by assumption) | exact isM.g3 (by assumption) | exact isM.g4 (by assumption) | exact isM.g8 (by assumption) | exact isM.g7 (by assumption) | exact isM.g6 (by assumption) | exact isM.g5 (by assumption) | exact isM.g1 (by assumption) | exact isM.g2 (by assumption)) (by first | assumption | exact b01_r | exact bz_r | omega | (constructor <;> omega) | exact hM _ | exact hPo _ | exact hTa _ | exact hRo _) (by first | assumption | exact b01_r | exact bz_r | omega | (constructor <;> omega) | exact hM _ | exact hPo _ | exact hTa _ | exact hRo _) (by first | assumption | exact b01_r | exact bz_r | omega | (constructor <;> omega) | exact hM _ | exact hPo _ | exact hTa _ | exact hRo _) (by omega) ?_
      refine r_callV2 (pc := 164) dX11_of_164 qX11_stepsIn kX11_226 vX11_stepsIn (by exact isM.gx (by assumption)) rfl rfl (Nat.le_of_ble_eq_true rfl) (m_stepsInS d hB0 hT.2.2 hT.1 hT.2.1 h11) (fun v_164 h_164 q_164 => ?_)
      obtain ⟨rfl, hB_164, hS_164⟩ := q_164
      refine r_ireturn (pc := 167) .int dX11_of_167 rfl (by first | rfl | assumption) ?_
      exact ⟨by unfold ofV; rw [if_pos c_5, if_neg e_11_0, if_neg e_11_1, if_neg e_11_2, if_neg e_11_3, if_neg e_11_4, if_neg e_11_5, if_neg e_11_6, if_pos e_11_7], hB_164, hS_164⟩
    have eo_11 : off_11 = 157 := by
      rw [← ho_11]
      unfold tswOff
      rw [if_pos (by omega)]
    obtain rfl : tgt_11 = 168 := by omega
    refine rj_iconst (pc := 168) dX11_of_168 ?_
    refine r_ireturn (pc := 169) .int dX11_of_169 rfl (by first | rfl | assumption) ?_
    exact ⟨by unfold ofV; rw [if_pos c_5, if_neg e_11_0, if_neg e_11_1, if_neg e_11_2, if_neg e_11_3, if_neg e_11_4, if_neg e_11_5, if_neg e_11_6, if_neg e_11_7], ⟨_, _, _, _, _, _, _, h11, hB0⟩, Same.refl⟩
  · try simp only [b01_0, bz_0, Classical.not_not] at c_5
    refine rj_iconst (pc := 8) dX11_of_8 ?_
    refine r_ireturn (pc := 9) .int dX11_of_9 rfl (by first | rfl | assumption) ?_
    exact ⟨by unfold ofV; rw [if_neg c_5], ⟨_, _, _, _, _, _, _, h11, hB0⟩, Same.refl⟩

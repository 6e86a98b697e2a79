set_option maxHeartbeats 4000000 in
set_option maxRecDepth 100000 in
theorem m_taken {G : mG} {l : Launch} (d : Nat) {h : mH} {x s : Nat} {f4 f6 f8 f9 f10 f11 f12 f13 f14 f16 f18 : Int} {m kp was pool tape pln pap rwd rw : Nat → Int}(hB : isM h x (mFs x f4 f6 f8 f9 f10 f11 f12 f13 f14 f16 f18 s) m kp was pool tape pln pap rwd rw) (hM : ∀ q, InR (m q)) (hPo : ∀ q, InR (pool q)) {N : Nat} (hN : m 1 = (N : Int)) (hcap : N ≤ 90) (hC : 0 ≤ m 0 ∧ m 0 ≤ 60) (h7 : ∀ t, t < N → m (261 + 14 * t) ≤ 7) {p n : Nat} {a : Int} (ha : InR a) {e : Nat} (he : neL pool 7 p = e) (hp : p + 9 + n ≤ 12341) (hn : n ≤ 12342) (hst : pool e = 123 → brStop pool n (e + 1) 1) : RUNM G l (d + 4) mX11_taken [.ref x, .int (J (p : Int)), .int (J a)] h (fun v h' => v = some (.int (J (takenV m pool N p e a))) ∧ isM h' x (mFs x f4 f6 f8 f9 f10 f11 f12 f13 f14 f16 f18 s) (takenM m pool N n p e a) kp was pool tape pln pap rwd rw ∧ Same (mBlk x) h h') := by
  have hB0 := hB
  dsimp only [mFs] at hB
  refine RUNM.of (by decide +kernel) (Nat.le_of_ble_eq_true rfl) ?_
  have hr := neL_r pool 7 p
  rw [he] at hr
  have r3 := hbL_r (m := m) (rc := pool) (fr := p) (to := e) N 0
  refine r_aload_n (pc := 0) dX11_taken_0 rfl (by first | rfl | exact isRefV_rf _) ?_
  refine r_iload_n (pc := 1) dX11_taken_1 rfl ?_
  refine r_callV1 (pc := 2) dX11_taken_2 qX11_nameEnd kX11_160 vX11_nameEnd (by exact isM.gx (by assumption)) rfl rfl (Nat.le_of_ble_eq_true rfl) (m_nameEnd (d + 2) hB hPo (by omega)) (fun v_2 h_2 q_2 => ?_)
  obtain ⟨rfl, rfl⟩ := q_2
  rw [he]
  refine r_istore_n (pc := 5) dX11_taken_5 (Nat.le_of_ble_eq_true rfl) ?_
  dsimp only [lsSt, List.set, mLs, mEnt]
  refine r_aload_n (pc := 6) dX11_taken_6 rfl (by first | rfl | exact isRefV_rf _) ?_
  refine r_iload_n (pc := 7) dX11_taken_7 rfl ?_
  refine r_callV1 (pc := 8) dX11_taken_8 qX11_isOpen kX11_146 vX11_isOpen (by exact isM.gx (by assumption)) rfl rfl (Nat.le_of_ble_eq_true rfl) (m_isOpen (d + 1) hB hM hC ha) (fun v_8 h_8 q_8 => ?_)
  obtain ⟨rfl, rfl⟩ := q_8
  refine rj_if_ne (pc := 11) (tgt := 17) dX11_taken_11 (by decide) (by first | assumption | exact b01_r | exact bz_r | omega | (constructor <;> omega) | exact hM _ | exact hPo _ | exact hTa _ | exact hRo _) (fun c_11 => ?_) (fun c_11 => ?_)
  · try simp only [b01_0, bz_0, Classical.not_not] at c_11
    refine r_aload_n (pc := 17) dX11_taken_17 rfl (by first | rfl | exact isRefV_rf _) ?_
    refine r_aload_n (pc := 18) dX11_taken_18 rfl (by first | rfl | exact isRefV_rf _) ?_
    refine rm_getf (pc := 19) dX11_taken_19 fX11_21 (by assumption) rfl ?_
    refine r_iload_n (pc := 22) dX11_taken_22 rfl ?_
    refine r_iload_n (pc := 23) dX11_taken_23 rfl ?_
    refine r_callV3 (pc := 24) dX11_taken_24 qX11_heldBy kX11_163 vX11_heldBy (by exact isM.gx (by assumption)) rfl rfl (Nat.le_of_ble_eq_true rfl) (m_heldBy d hB hM (Or.inr ⟨rfl, rfl, by omega⟩) (by omega) hPo hN hcap h7) (fun v_24 h_24 q_24 => ?_)
    obtain ⟨rfl, rfl⟩ := q_24
    refine rj_if_lt (pc := 27) (tgt := 33) dX11_taken_27 (by decide) (by first | assumption | exact b01_r | exact bz_r | omega | (constructor <;> omega) | exact hM _ | exact hPo _ | exact hTa _ | exact hRo _) (fun c_27 => ?_) (fun c_27 => ?_)
    · refine r_aload_n (pc := 33) dX11_taken_33 rfl (by first | rfl | exact isRefV_rf _) ?_
      refine rm_getf (pc := 34) dX11_taken_34 fX11_11 (by assumption) rfl ?_
      refine rj_iconst (pc := 37) dX11_taken_37 ?_
      refine rj_iald (pc := 38) (j := 1) dX11_taken_38 (by first | exact isM.g0 (by assumption) | exact isM.g3 (by assumption) | exact isM.g4 (by assumption) | exact isM.g8 (by assumption) | exact isM.g7 (by assumption) | exact isM.g6 (by assumption) | exact isM.g5 (by assumption) | exact isM.g1 (by assumption) | exact isM.g2 (by assumption)) (by first | assumption | exact b01_r | exact bz_r | omega | (constructor <;> omega) | exact hM _ | exact hPo _ | exact hTa _ | exact hRo _) (by first | assumption | exact b01_r | exact bz_r | omega | (constructor <;> omega) | exact hM _ | exact hPo _ | exact hTa _ | exact hRo _) (by first | assumption | exact b01_r | exact bz_r | omega | (constructor <;> omega) | exact hM _ | exact hPo _ | exact hTa _ | exact hRo _) rfl ?_
      refine rj_bipush (pc := 39) dX11_taken_39 (by decide +kernel) ?_
      refine rj_icmp_ne (pc := 41) (tgt := 47) dX11_taken_41 (by decide) (by first | assumption | exact b01_r | exact bz_r | omega | (constructor <;> omega) | exact hM _ | exact hPo _ | exact hTa _ | exact hRo _) (by first | assumption | exact b01_r | exact bz_r | omega | (constructor <;> omega) | exact hM _ | exact hPo _ | exact hTa _ | exact hRo _) (fun c_41 => ?_) (fun c_41 => ?_)
      · refine r_iload_n (pc := 47) dX11_taken_47 rfl ?_
        refine r_istore (pc := 48) dX11_taken_48 (Nat.le_of_ble_eq_true rfl) ?_
        dsimp only [lsSt, List.set, mLs, mEnt]
        refine r_iload_n (pc := 50) dX11_taken_50 rfl ?_
        refine r_istore (pc := 51) dX11_taken_51 (Nat.le_of_ble_eq_true rfl) ?_
        dsimp only [lsSt, List.set, mLs, mEnt]
        refine r_aload_n (pc := 53) dX11_taken_53 rfl (by first | rfl | exact isRefV_rf _) ?_
        refine rm_getf (pc := 54) dX11_taken_54 fX11_21 (by assumption) rfl ?_
        refine r_iload_n (pc := 57) dX11_taken_57 rfl ?_
        refine rj_iald (pc := 58) (j := e) dX11_taken_58 (by first | exact isM.g0 (by assumption) | exact isM.g3 (by assumption) | exact isM.g4 (by assumption) | exact isM.g8 (by assumption) | exact isM.g7 (by assumption) | exact isM.g6 (by assumption) | exact isM.g5 (by assumption) | exact isM.g1 (by assumption) | exact isM.g2 (by assumption)) (by first | assumption | exact b01_r | exact bz_r | omega | (constructor <;> omega) | exact hM _ | exact hPo _ | exact hTa _ | exact hRo _) (by first | assumption | exact b01_r | exact bz_r | omega | (constructor <;> omega) | exact hM _ | exact hPo _ | exact hTa _ | exact hRo _) (by first | assumption | exact b01_r | exact bz_r | omega | (constructor <;> omega) | exact hM _ | exact hPo _ | exact hTa _ | exact hRo _) (by omega) ?_
        refine rj_bipush (pc := 59) dX11_taken_59 (by decide +kernel) ?_
        refine rj_icmp_ne (pc := 61) (tgt := 128) dX11_taken_61 (by decide) (by first | assumption | exact b01_r | exact bz_r | omega | (constructor <;> omega) | exact hM _ | exact hPo _ | exact hTa _ | exact hRo _) (by first | assumption | exact b01_r | exact bz_r | omega | (constructor <;> omega) | exact hM _ | exact hPo _ | exact hTa _ | exact hRo _) (fun c_61 => ?_) (fun c_61 => ?_)
        · refine r_aload_n (pc := 128) dX11_taken_128 rfl (by first | rfl | exact isRefV_rf _) ?_
          refine r_iload_n (pc := 129) dX11_taken_129 rfl ?_
          refine r_aload_n (pc := 130) dX11_taken_130 rfl (by first | rfl | exact isRefV_rf _) ?_
          refine rm_getf (pc := 131) dX11_taken_131 fX11_21 (by assumption) rfl ?_
          refine r_iload_n (pc := 134) dX11_taken_134 rfl ?_
          refine r_iload_n (pc := 135) dX11_taken_135 rfl ?_
          refine r_iload (pc := 136) dX11_taken_136 rfl ?_
          refine r_iload (pc := 138) dX11_taken_138 rfl ?_
          refine r_callV6 (pc := 140) dX11_taken_140 qX11_takes kX11_167 vX11_takes (by exact isM.gx (by assumption)) rfl rfl (Nat.le_of_ble_eq_true rfl) (m_takes (d + 1) hB0 (Or.inr ⟨rfl, rfl, by omega⟩) (by omega) (by omega) hN (by omega)) (fun v_140 h_140 q_140 => ?_)
          obtain ⟨rfl, hB_140, hS_140⟩ := q_140
          refine r_pop (pc := 143) dX11_taken_143 (by first | rfl | (cases ‹Option Nat› <;> rfl)) ?_
          refine rj_iconst (pc := 144) dX11_taken_144 ?_
          refine r_ireturn (pc := 145) .int dX11_taken_145 rfl (by first | rfl | assumption) ?_
          have e1 : takenV m pool N p e a = 0 := by unfold takenV; rw [if_pos c_11, if_neg (by omega), if_neg (by omega)]
          have e2 : ftF pool n e = ((e : Int), (e : Int)) := by unfold ftF; rw [if_neg c_61]
          exact ⟨by rw [e1], by unfold takenM; rw [if_pos e1, e2]; exact hB_140, hS_140⟩
        · refine r_iload_n (pc := 64) dX11_taken_64 rfl ?_
          refine rj_iconst (pc := 65) dX11_taken_65 ?_
          refine rj_iadd (pc := 66) dX11_taken_66 ?_
          refine r_istore (pc := 67) dX11_taken_67 (Nat.le_of_ble_eq_true rfl) ?_
          dsimp only [lsSt, List.set, mLs, mEnt]
          refine r_iload (pc := 69) dX11_taken_69 rfl ?_
          refine r_istore (pc := 71) dX11_taken_71 (Nat.le_of_ble_eq_true rfl) ?_
          dsimp only [lsSt, List.set, mLs, mEnt]
          refine rj_iconst (pc := 73) dX11_taken_73 ?_
          refine r_istore (pc := 74) dX11_taken_74 (Nat.le_of_ble_eq_true rfl) ?_
          dsimp only [lsSt, List.set, mLs, mEnt]
          have e1 : takenV m pool N p e a = 0 := by unfold takenV; rw [if_pos c_11, if_neg (by omega), if_neg (by omega)]
          have e2 : ftF pool n e = ((e : Int) + 1, (brL pool (n + 1) (e + 1) 1 : Int) + -1) := by unfold ftF; rw [if_pos c_61]
          have z := L_taken (G := G) (l := l) d hB0 hM hPo hN hcap hC h7 (n := n) ha (e := e) hr.1 hr.2 (by omega) (by omega) (F := (e : Int) + 1) n (e + 1) 1 (hst c_61) (by omega) (by omega) (by omega)
          exact z.mono (fun v h' g => ⟨by rw [e1]; exact g.1, by unfold takenM; rw [if_pos e1, e2]; exact g.2.1, g.2.2⟩)
      · refine rj_bipush (pc := 44) dX11_taken_44 (by decide +kernel) ?_
        refine r_ireturn (pc := 46) .int dX11_taken_46 rfl (by first | rfl | assumption) ?_
        have e1 : takenV m pool N p e a = 103 := by unfold takenV; rw [if_pos c_11, if_neg (by omega), if_pos (by omega)]
        exact ⟨by rw [e1], by unfold takenM; rw [if_neg (by rw [e1]; decide)]; exact hB0, Same.refl⟩
    · refine rj_bipush (pc := 30) dX11_taken_30 (by decide +kernel) ?_
      refine r_ireturn (pc := 32) .int dX11_taken_32 rfl (by first | rfl | assumption) ?_
      have e1 : takenV m pool N p e a = 102 := by unfold takenV; rw [if_pos c_11, if_pos (by omega)]
      exact ⟨by rw [e1], by unfold takenM; rw [if_neg (by rw [e1]; decide)]; exact hB0, Same.refl⟩
  · try simp only [b01_0, bz_0, Classical.not_not] at c_11
    refine rj_bipush (pc := 14) dX11_taken_14 (by decide +kernel) ?_
    refine r_ireturn (pc := 16) .int dX11_taken_16 rfl (by first | rfl | assumption) ?_
    have e1 : takenV m pool N p e a = 101 := by unfold takenV; rw [if_neg c_11]
    exact ⟨by rw [e1], by unfold takenM; rw [if_neg (by rw [e1]; decide)]; exact hB0, Same.refl⟩

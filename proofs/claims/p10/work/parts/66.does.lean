/-! ===== the reference: a step, by its kind ===== -/
/-- what every step may lean on -/
def mOk (m : Nat → Int) : Prop := (∀ q, InR (m q)) ∧ (0 ≤ m 0 ∧ m 0 ≤ 60) ∧ (0 ≤ m 1 ∧ m 1 ≤ 90) ∧ (0 ≤ m 2 ∧ m 2 ≤ 90) ∧ (0 ≤ m 3 ∧ m 3 ≤ 10) ∧ (0 ≤ m 4 ∧ m 4 ≤ 120) ∧ (0 ≤ m 5 ∧ m 5 ≤ 120) ∧ ∀ t : Nat, (t : Int) < m 1 → m (261 + 14 * t) ≤ 7
/-- the whole number read at a place, whose figures end after n at the latest -/
def numR (pool : Nat → Int) (p : Nat) (v : Int) : Prop := ∃ n : Nat, n ≤ 20 ∧ stopsBy pool n (if pool p = 45 then p + 1 else p) ∧ v = numAt pool n p
theorem naL_r {pool : Nat → Int} : True := trivial
set_option maxHeartbeats 4000000 in
set_option maxRecDepth 100000 in
theorem d_plus {G : mG} {l : Launch} (d : Nat) {h : mH} {x s : Nat} {f4 f6 f8 f9 f10 f11 f12 f13 f14 f16 f18 : Int} {m kp was pool tape pln pap rwd rw : Nat → Int}(hB : isM h x (mFs x f4 f6 f8 f9 f10 f11 f12 f13 f14 f16 f18 s) m kp was pool tape pln pap rwd rw) {p : Nat} (hp : p + 40 ≤ 12342) (hPo : ∀ q, InR (pool q)) (hok : mOk m) {s2 : Int} (hs : InR s2) (hk : pool p = 43) (hc : 48 ≤ pool (p + 1) ∧ pool (p + 1) ≤ 55) {n : Nat} (hn : n ≤ 20) (hst : stopsBy pool n (if pool (p + 3) = 45 then p + 3 + 1 else p + 3)) : RUNM G l (d + 2) mX11_does [.ref x, .int (J (p : Int)), .int (J s2)] h (fun v h' => v = some (.int (J 0)) ∧ isM h' x (mFs x f4 f6 f8 f9 f10 f11 f12 f13 f14 f16 f18 s) (updI m (10 + pool (p + 1) - 48).toNat (wrap (m (10 + pool (p + 1) - 48).toNat + numAt pool n (p + 3)))) kp was pool tape pln pap rwd rw ∧ Same (mBlk x) h h') := by
  obtain ⟨hM, k0, k1, k2, k3, k4, k5, k7⟩ := hok
  have hB0 := hB
  dsimp only [mFs] at hB
  have rp := hPo p
  have rc := hPo (p + 1)
  refine RUNM.of (by decide +kernel) (Nat.le_of_ble_eq_true rfl) ?_
  refine r_aload_n (pc := 0) dX11_does_0 rfl (by first | rfl | exact isRefV_rf _) ?_
  refine rm_getf (pc := 1) dX11_does_1 fX11_21 (by assumption) rfl ?_
  refine r_iload_n (pc := 4) dX11_does_4 rfl ?_
  refine rj_iald (pc := 5) (j := p) dX11_does_5 (by first | exact isM.g0 (by assumption) | exact isM.g3 (by assumption) | exact isM.g4 (by assumption) | exact isM.g8 (by assumption) | exact isM.g7 (by assumption) | exact isM.g6 (by assumption) | exact isM.g5 (by assumption) | exact isM.g1 (by assumption) | exact isM.g2 (by assumption)) (by first | assumption | exact b01_r | exact bz_r | omega | (constructor <;> omega) | exact hM _ | exact hPo _ | exact hTa _ | exact hRo _) (by first | assumption | exact b01_r | exact bz_r | omega | (constructor <;> omega) | exact hM _ | exact hPo _ | exact hTa _ | exact hRo _) (by first | assumption | exact b01_r | exact bz_r | omega | (constructor <;> omega) | exact hM _ | exact hPo _ | exact hTa _ | exact hRo _) (by omega) ?_
  refine rj_lsw (pc := 6) dX11_does_6 rfl (by first | assumption | exact b01_r | exact bz_r | omega | (constructor <;> omega) | exact hM _ | exact hPo _ | exact hTa _ | exact hRo _) (by simp only [Op.lookupswitch.offset_cons, Op.lookupswitch.offset_nil]; repeat' split; all_goals omega) (fun off_6 tgt_6 ho_6 ht_6 => ?_)
  simp only [Op.lookupswitch.offset_cons, Op.lookupswitch.offset_nil] at ho_6
  by_cases e_6_33 : (33 : Int) = pool p
  · rw [if_pos e_6_33] at ho_6
    obtain rfl : tgt_6 = 103 := by omega
    exfalso; omega
  rw [if_neg e_6_33] at ho_6
  by_cases e_6_43 : (43 : Int) = pool p
  · rw [if_pos e_6_43] at ho_6
    obtain rfl : tgt_6 = 72 := by omega
    refine r_aload_n (pc := 72) dX11_does_72 rfl (by first | rfl | exact isRefV_rf _) ?_
    refine rm_getf (pc := 73) dX11_does_73 fX11_11 (by assumption) rfl ?_
    refine rj_bipush (pc := 76) dX11_does_76 (by decide +kernel) ?_
    refine r_aload_n (pc := 78) dX11_does_78 rfl (by first | rfl | exact isRefV_rf _) ?_
    refine rm_getf (pc := 79) dX11_does_79 fX11_21 (by assumption) rfl ?_
    refine r_iload_n (pc := 82) dX11_does_82 rfl ?_
    refine rj_iconst (pc := 83) dX11_does_83 ?_
    refine rj_iadd (pc := 84) dX11_does_84 ?_
    refine rj_iald (pc := 85) (j := p + 1) dX11_does_85 (by first | exact isM.g0 (by assumption) | exact isM.g3 (by assumption) | exact isM.g4 (by assumption) | exact isM.g8 (by assumption) | exact isM.g7 (by assumption) | exact isM.g6 (by assumption) | exact isM.g5 (by assumption) | exact isM.g1 (by assumption) | exact isM.g2 (by assumption)) (by first | assumption | exact b01_r | exact bz_r | omega | (constructor <;> omega) | exact hM _ | exact hPo _ | exact hTa _ | exact hRo _) (by first | assumption | exact b01_r | exact bz_r | omega | (constructor <;> omega) | exact hM _ | exact hPo _ | exact hTa _ | exact hRo _) (by first | assumption | exact b01_r | exact bz_r | omega | (constructor <;> omega) | exact hM _ | exact hPo _ | exact hTa _ | exact hRo _) (by omega) ?_
    refine rj_iadd (pc := 86) dX11_does_86 ?_
    refine rj_bipush (pc := 87) dX11_does_87 (by decide +kernel) ?_
    refine rj_isub (pc := 89) dX11_does_89 ?_
    refine r_dup2 (pc := 90) dX11_does_90 rfl rfl ?_
    refine rj_iald (pc := 91) (j := (10 + pool (p + 1) - 48).toNat) dX11_does_91 (by first | exact isM.g0 (by assumption) | exact isM.g3 (by assumption) | exact isM.g4 (by assumption) | exact isM.g8 (by assumption) | exact isM.g7 (by assumption) | exact isM.g6 (by assumption) | exact isM.g5 (by assumption) | exact isM.g1 (by assumption) | exact isM.g2 (by assumption)) (by first | assumption | exact b01_r | exact bz_r | omega | (constructor <;> omega) | exact hM _ | exact hPo _ | exact hTa _ | exact hRo _) (by first | assumption | exact b01_r | exact bz_r | omega | (constructor <;> omega) | exact hM _ | exact hPo _ | exact hTa _ | exact hRo _) (by first | assumption | exact b01_r | exact bz_r | omega | (constructor <;> omega) | exact hM _ | exact hPo _ | exact hTa _ | exact hRo _) (by omega) ?_
    refine r_aload_n (pc := 92) dX11_does_92 rfl (by first | rfl | exact isRefV_rf _) ?_
    refine r_iload_n (pc := 93) dX11_does_93 rfl ?_
    refine rj_iconst (pc := 94) dX11_does_94 ?_
    refine rj_iadd (pc := 95) dX11_does_95 ?_
    refine r_callV1 (pc := 96) dX11_does_96 qX11_numberAt kX11_171 vX11_numberAt (by exact isM.gx (by assumption)) rfl rfl (Nat.le_of_ble_eq_true rfl) (by have y := m_numberAt (G := G) (l := l) d hB0 hPo (p := p + 3) (n := n) (by omega) hst; rw [show ((p + 3 : Nat) : Int) = (p : Int) + 3 by omega] at y; exact y) (fun v_96 h_96 q_96 => ?_)
    obtain ⟨rfl, rfl⟩ := q_96
    refine rj_iadd (pc := 99) dX11_does_99 ?_
    rw [J_wrap (m (10 + pool (p + 1) - 48).toNat + numAt pool n (p + 3))]
    first | refine rm_iast0 (pc := 100) (j := (10 + pool (p + 1) - 48).toNat) dX11_does_100 (by assumption) (by first | assumption | exact b01_r | exact bz_r | omega | (constructor <;> omega) | exact hM _ | exact hPo _ | exact hTa _ | exact hRo _) (by first | assumption | exact b01_r | exact bz_r | omega | (constructor <;> omega) | exact hM _ | exact hPo _ | exact hTa _ | exact hRo _) (by first | assumption | exact b01_r | exact bz_r | omega | (constructor <;> omega) | exact hM _ | exact hPo _ | exact hTa _ | exact hRo _) (by omega) (fun h_100 hB_100 hS_100 => ?_)
    refine rj_iconst (pc := 101) dX11_does_101 ?_
    refine r_ireturn (pc := 102) .int dX11_does_102 rfl (by first | rfl | assumption) ?_
    exact ⟨rfl, hB_100, hS_100⟩
  rw [if_neg e_6_43] at ho_6
  by_cases e_6_63 : (63 : Int) = pool p
  · rw [if_pos e_6_63] at ho_6
    obtain rfl : tgt_6 = 273 := by omega
    exfalso; omega
  rw [if_neg e_6_63] at ho_6
  by_cases e_6_97 : (97 : Int) = pool p
  · rw [if_pos e_6_97] at ho_6
    obtain rfl : tgt_6 = 111 := by omega
    exfalso; omega
  rw [if_neg e_6_97] at ho_6
  by_cases e_6_107 : (107 : Int) = pool p
  · rw [if_pos e_6_107] at ho_6
    obtain rfl : tgt_6 = 227 := by omega
    exfalso; omega
  rw [if_neg e_6_107] at ho_6
  by_cases e_6_109 : (109 : Int) = pool p
  · rw [if_pos e_6_109] at ho_6
    obtain rfl : tgt_6 = 159 := by omega
    exfalso; omega
  rw [if_neg e_6_109] at ho_6
  by_cases e_6_120 : (120 : Int) = pool p
  · rw [if_pos e_6_120] at ho_6
    obtain rfl : tgt_6 = 120 := by omega
    exfalso; omega
  rw [if_neg e_6_120] at ho_6
  obtain rfl : tgt_6 = 336 := by omega
  exfalso; omega
set_option maxHeartbeats 4000000 in
set_option maxRecDepth 100000 in
theorem d_bang {G : mG} {l : Launch} (d : Nat) {h : mH} {x s : Nat} {f4 f6 f8 f9 f10 f11 f12 f13 f14 f16 f18 : Int} {m kp was pool tape pln pap rwd rw : Nat → Int}(hB : isM h x (mFs x f4 f6 f8 f9 f10 f11 f12 f13 f14 f16 f18 s) m kp was pool tape pln pap rwd rw) {p : Nat} (hp : p + 40 ≤ 12342) (hPo : ∀ q, InR (pool q)) (hok : mOk m) {s2 : Int} (hs : InR s2) (hk : pool p = 33) {n : Nat} (hn : n ≤ 20) (hst : stopsBy pool n (if pool (p + 1) = 45 then p + 1 + 1 else p + 1)) : RUNM G l (d + 2) mX11_does [.ref x, .int (J (p : Int)), .int (J s2)] h (fun v h' => v = some (.int (J (numAt pool n (p + 1)))) ∧ h' = h) := by
  obtain ⟨hM, k0, k1, k2, k3, k4, k5, k7⟩ := hok
  have hB0 := hB
  dsimp only [mFs] at hB
  have rp := hPo p
  refine RUNM.of (by decide +kernel) (Nat.le_of_ble_eq_true rfl) ?_
  refine r_aload_n (pc := 0) dX11_does_0 rfl (by first | rfl | exact isRefV_rf _) ?_
  refine rm_getf (pc := 1) dX11_does_1 fX11_21 (by assumption) rfl ?_
  refine r_iload_n (pc := 4) dX11_does_4 rfl ?_
  refine rj_iald (pc := 5) (j := p) dX11_does_5 (by first | exact isM.g0 (by assumption) | exact isM.g3 (by assumption) | exact isM.g4 (by assumption) | exact isM.g8 (by assumption) | exact isM.g7 (by assumption) | exact isM.g6 (by assumption) | exact isM.g5 (by assumption) | exact isM.g1 (by assumption) | exact isM.g2 (by assumption)) (by first | assumption | exact b01_r | exact bz_r | omega | (constructor <;> omega) | exact hM _ | exact hPo _ | exact hTa _ | exact hRo _) (by first | assumption | exact b01_r | exact bz_r | omega | (constructor <;> omega) | exact hM _ | exact hPo _ | exact hTa _ | exact hRo _) (by first | assumption | exact b01_r | exact bz_r | omega | (constructor <;> omega) | exact hM _ | exact hPo _ | exact hTa _ | exact hRo _) (by omega) ?_
  refine rj_lsw (pc := 6) dX11_does_6 rfl (by first | assumption | exact b01_r | exact bz_r | omega | (constructor <;> omega) | exact hM _ | exact hPo _ | exact hTa _ | exact hRo _) (by simp only [Op.lookupswitch.offset_cons, Op.lookupswitch.offset_nil]; repeat' split; all_goals omega) (fun off_6 tgt_6 ho_6 ht_6 => ?_)
  simp only [Op.lookupswitch.offset_cons, Op.lookupswitch.offset_nil] at ho_6
  by_cases e_6_33 : (33 : Int) = pool p
  · rw [if_pos e_6_33] at ho_6
    obtain rfl : tgt_6 = 103 := by omega
    refine r_aload_n (pc := 103) dX11_does_103 rfl (by first | rfl | exact isRefV_rf _) ?_
    refine r_iload_n (pc := 104) dX11_does_104 rfl ?_
    refine rj_iconst (pc := 105) dX11_does_105 ?_
    refine rj_iadd (pc := 106) dX11_does_106 ?_
    refine r_callV1 (pc := 107) dX11_does_107 qX11_numberAt kX11_171 vX11_numberAt (by exact isM.gx (by assumption)) rfl rfl (Nat.le_of_ble_eq_true rfl) (by have y := m_numberAt (G := G) (l := l) d hB0 hPo (p := p + 1) (n := n) (by omega) hst; rw [show ((p + 1 : Nat) : Int) = (p : Int) + 1 by omega] at y; exact y) (fun v_107 h_107 q_107 => ?_)
    obtain ⟨rfl, rfl⟩ := q_107
    refine r_ireturn (pc := 110) .int dX11_does_110 rfl (by first | rfl | assumption) ?_
    exact ⟨rfl, rfl⟩
  rw [if_neg e_6_33] at ho_6
  by_cases e_6_43 : (43 : Int) = pool p
  · rw [if_pos e_6_43] at ho_6
    obtain rfl : tgt_6 = 72 := by omega
    exfalso; omega
  rw [if_neg e_6_43] at ho_6
  by_cases e_6_63 : (63 : Int) = pool p
  · rw [if_pos e_6_63] at ho_6
    obtain rfl : tgt_6 = 273 := by omega
    exfalso; omega
  rw [if_neg e_6_63] at ho_6
  by_cases e_6_97 : (97 : Int) = pool p
  · rw [if_pos e_6_97] at ho_6
    obtain rfl : tgt_6 = 111 := by omega
    exfalso; omega
  rw [if_neg e_6_97] at ho_6
  by_cases e_6_107 : (107 : Int) = pool p
  · rw [if_pos e_6_107] at ho_6
    obtain rfl : tgt_6 = 227 := by omega
    exfalso; omega
  rw [if_neg e_6_107] at ho_6
  by_cases e_6_109 : (109 : Int) = pool p
  · rw [if_pos e_6_109] at ho_6
    obtain rfl : tgt_6 = 159 := by omega
    exfalso; omega
  rw [if_neg e_6_109] at ho_6
  by_cases e_6_120 : (120 : Int) = pool p
  · rw [if_pos e_6_120] at ho_6
    obtain rfl : tgt_6 = 120 := by omega
    exfalso; omega
  rw [if_neg e_6_120] at ho_6
  obtain rfl : tgt_6 = 336 := by omega
  exfalso; omega
set_option maxHeartbeats 4000000 in
set_option maxRecDepth 100000 in
theorem d_take {G : mG} {l : Launch} (d : Nat) {h : mH} {x s : Nat} {f4 f6 f8 f9 f10 f11 f12 f13 f14 f16 f18 : Int} {m kp was pool tape pln pap rwd rw : Nat → Int}(hB : isM h x (mFs x f4 f6 f8 f9 f10 f11 f12 f13 f14 f16 f18 s) m kp was pool tape pln pap rwd rw) {p : Nat} (hp : p + 40 ≤ 12342) (hPo : ∀ q, InR (pool q)) (hok : mOk m) {s2 : Int} (hs : InR s2) (hk : pool p = 97) {N : Nat} (hN : m 1 = (N : Int)) {e n : Nat} (he : neL pool 7 (p + 1) = e) (hpn : p + 10 + n ≤ 12341) (hst : pool e = 123 → brStop pool n (e + 1) 1) : RUNM G l (d + 5) mX11_does [.ref x, .int (J (p : Int)), .int (J s2)] h (fun v h' => v = some (.int (J (takenV m pool N (p + 1) e s2))) ∧ isM h' x (mFs x f4 f6 f8 f9 f10 f11 f12 f13 f14 f16 f18 s) (takenM m pool N n (p + 1) e s2) kp was pool tape pln pap rwd rw ∧ Same (mBlk x) h h') := by
  obtain ⟨hM, k0, k1, k2, k3, k4, k5, k7⟩ := hok
  have hB0 := hB
  dsimp only [mFs] at hB
  have rp := hPo p
  refine RUNM.of (by decide +kernel) (Nat.le_of_ble_eq_true rfl) ?_
  refine r_aload_n (pc := 0) dX11_does_0 rfl (by first | rfl | exact isRefV_rf _) ?_
  refine rm_getf (pc := 1) dX11_does_1 fX11_21 (by assumption) rfl ?_
  refine r_iload_n (pc := 4) dX11_does_4 rfl ?_
  refine rj_iald (pc := 5) (j := p) dX11_does_5 (by first | exact isM.g0 (by assumption) | exact isM.g3 (by assumption) | exact isM.g4 (by assumption) | exact isM.g8 (by assumption) | exact isM.g7 (by assumption) | exact isM.g6 (by assumption) | exact isM.g5 (by assumption) | exact isM.g1 (by assumption) | exact isM.g2 (by assumption)) (by first | assumption | exact b01_r | exact bz_r | omega | (constructor <;> omega) | exact hM _ | exact hPo _ | exact hTa _ | exact hRo _) (by first | assumption | exact b01_r | exact bz_r | omega | (constructor <;> omega) | exact hM _ | exact hPo _ | exact hTa _ | exact hRo _) (by first | assumption | exact b01_r | exact bz_r | omega | (constructor <;> omega) | exact hM _ | exact hPo _ | exact hTa _ | exact hRo _) (by omega) ?_
  refine rj_lsw (pc := 6) dX11_does_6 rfl (by first | assumption | exact b01_r | exact bz_r | omega | (constructor <;> omega) | exact hM _ | exact hPo _ | exact hTa _ | exact hRo _) (by simp only [Op.lookupswitch.offset_cons, Op.lookupswitch.offset_nil]; repeat' split; all_goals omega) (fun off_6 tgt_6 ho_6 ht_6 => ?_)
  simp only [Op.lookupswitch.offset_cons, Op.lookupswitch.offset_nil] at ho_6
  by_cases e_6_33 : (33 : Int) = pool p
  · rw [if_pos e_6_33] at ho_6
    obtain rfl : tgt_6 = 103 := by omega
    exfalso; omega
  rw [if_neg e_6_33] at ho_6
  by_cases e_6_43 : (43 : Int) = pool p
  · rw [if_pos e_6_43] at ho_6
    obtain rfl : tgt_6 = 72 := by omega
    exfalso; omega
  rw [if_neg e_6_43] at ho_6
  by_cases e_6_63 : (63 : Int) = pool p
  · rw [if_pos e_6_63] at ho_6
    obtain rfl : tgt_6 = 273 := by omega
    exfalso; omega
  rw [if_neg e_6_63] at ho_6
  by_cases e_6_97 : (97 : Int) = pool p
  · rw [if_pos e_6_97] at ho_6
    obtain rfl : tgt_6 = 111 := by omega
    refine r_aload_n (pc := 111) dX11_does_111 rfl (by first | rfl | exact isRefV_rf _) ?_
    refine r_iload_n (pc := 112) dX11_does_112 rfl ?_
    refine rj_iconst (pc := 113) dX11_does_113 ?_
    refine rj_iadd (pc := 114) dX11_does_114 ?_
    refine r_iload_n (pc := 115) dX11_does_115 rfl ?_
    refine r_callV2 (pc := 116) dX11_does_116 qX11_taken kX11_174 vX11_taken (by exact isM.gx (by assumption)) rfl rfl (Nat.le_of_ble_eq_true rfl) (by have y := m_taken (G := G) (l := l) d hB0 hM hPo hN (by omega) k0 (fun t ht => k7 t (by omega)) (p := p + 1) (n := n) hs he (by omega) (by omega) hst; rw [show ((p + 1 : Nat) : Int) = (p : Int) + 1 by omega] at y; exact y) (fun v_116 h_116 q_116 => ?_)
    obtain ⟨rfl, hB_116, S_116⟩ := q_116
    refine r_ireturn (pc := 119) .int dX11_does_119 rfl (by first | rfl | assumption) ?_
    exact ⟨rfl, hB_116, S_116⟩
  rw [if_neg e_6_97] at ho_6
  by_cases e_6_107 : (107 : Int) = pool p
  · rw [if_pos e_6_107] at ho_6
    obtain rfl : tgt_6 = 227 := by omega
    exfalso; omega
  rw [if_neg e_6_107] at ho_6
  by_cases e_6_109 : (109 : Int) = pool p
  · rw [if_pos e_6_109] at ho_6
    obtain rfl : tgt_6 = 159 := by omega
    exfalso; omega
  rw [if_neg e_6_109] at ho_6
  by_cases e_6_120 : (120 : Int) = pool p
  · rw [if_pos e_6_120] at ho_6
    obtain rfl : tgt_6 = 120 := by omega
    exfalso; omega
  rw [if_neg e_6_120] at ho_6
  obtain rfl : tgt_6 = 336 := by omega
  exfalso; omega
set_option maxHeartbeats 4000000 in
set_option maxRecDepth 100000 in
theorem d_nop {G : mG} {l : Launch} (d : Nat) {h : mH} {x s : Nat} {f4 f6 f8 f9 f10 f11 f12 f13 f14 f16 f18 : Int} {m kp was pool tape pln pap rwd rw : Nat → Int}(hB : isM h x (mFs x f4 f6 f8 f9 f10 f11 f12 f13 f14 f16 f18 s) m kp was pool tape pln pap rwd rw) {p : Nat} (hp : p + 40 ≤ 12342) (hPo : ∀ q, InR (pool q)) (hok : mOk m) {s2 : Int} (hs : InR s2) (hk : ¬ pool p = 33 ∧ ¬ pool p = 43 ∧ ¬ pool p = 63 ∧ ¬ pool p = 97 ∧ ¬ pool p = 107 ∧ ¬ pool p = 109 ∧ ¬ pool p = 120) : RUNM G l (d) mX11_does [.ref x, .int (J (p : Int)), .int (J s2)] h (fun v h' => v = some (.int (J 0)) ∧ h' = h) := by
  dsimp only [mFs] at hB
  have rp := hPo p
  refine RUNM.of (by decide +kernel) (Nat.le_of_ble_eq_true rfl) ?_
  refine r_aload_n (pc := 0) dX11_does_0 rfl (by first | rfl | exact isRefV_rf _) ?_
  refine rm_getf (pc := 1) dX11_does_1 fX11_21 (by assumption) rfl ?_
  refine r_iload_n (pc := 4) dX11_does_4 rfl ?_
  refine rj_iald (pc := 5) (j := p) dX11_does_5 (by first | exact isM.g0 (by assumption) | exact isM.g3 (by assumption) | exact isM.g4 (by assumption) | exact isM.g8 (by assumption) | exact isM.g7 (by assumption) | exact isM.g6 (by assumption) | exact isM.g5 (by assumption) | exact isM.g1 (by assumption) | exact isM.g2 (by assumption)) (by first | assumption | exact b01_r | exact bz_r | omega | (constructor <;> omega) | exact hM _ | exact hPo _ | exact hTa _ | exact hRo _) (by first | assumption | exact b01_r | exact bz_r | omega | (constructor <;> omega) | exact hM _ | exact hPo _ | exact hTa _ | exact hRo _) (by first | assumption | exact b01_r | exact bz_r | omega | (constructor <;> omega) | exact hM _ | exact hPo _ | exact hTa _ | exact hRo _) (by omega) ?_
  refine rj_lsw (pc := 6) dX11_does_6 rfl (by first | assumption | exact b01_r | exact bz_r | omega | (constructor <;> omega) | exact hM _ | exact hPo _ | exact hTa _ | exact hRo _) (by simp only [Op.lookupswitch.offset_cons, Op.lookupswitch.offset_nil]; repeat' split; all_goals omega) (fun off_6 tgt_6 ho_6 ht_6 => ?_)
  simp only [Op.lookupswitch.offset_cons, Op.lookupswitch.offset_nil] at ho_6
  by_cases e_6_33 : (33 : Int) = pool p
  · rw [if_pos e_6_33] at ho_6
    obtain rfl : tgt_6 = 103 := by omega
    exfalso; omega
  rw [if_neg e_6_33] at ho_6
  by_cases e_6_43 : (43 : Int) = pool p
  · rw [if_pos e_6_43] at ho_6
    obtain rfl : tgt_6 = 72 := by omega
    exfalso; omega
  rw [if_neg e_6_43] at ho_6
  by_cases e_6_63 : (63 : Int) = pool p
  · rw [if_pos e_6_63] at ho_6
    obtain rfl : tgt_6 = 273 := by omega
    exfalso; omega
  rw [if_neg e_6_63] at ho_6
  by_cases e_6_97 : (97 : Int) = pool p
  · rw [if_pos e_6_97] at ho_6
    obtain rfl : tgt_6 = 111 := by omega
    exfalso; omega
  rw [if_neg e_6_97] at ho_6
  by_cases e_6_107 : (107 : Int) = pool p
  · rw [if_pos e_6_107] at ho_6
    obtain rfl : tgt_6 = 227 := by omega
    exfalso; omega
  rw [if_neg e_6_107] at ho_6
  by_cases e_6_109 : (109 : Int) = pool p
  · rw [if_pos e_6_109] at ho_6
    obtain rfl : tgt_6 = 159 := by omega
    exfalso; omega
  rw [if_neg e_6_109] at ho_6
  by_cases e_6_120 : (120 : Int) = pool p
  · rw [if_pos e_6_120] at ho_6
    obtain rfl : tgt_6 = 120 := by omega
    exfalso; omega
  rw [if_neg e_6_120] at ho_6
  obtain rfl : tgt_6 = 336 := by omega
  refine rj_iconst (pc := 336) dX11_does_336 ?_
  refine r_ireturn (pc := 337) .int dX11_does_337 rfl (by first | rfl | assumption) ?_
  exact ⟨rfl, rfl⟩
set_option maxHeartbeats 4000000 in
set_option maxRecDepth 100000 in
theorem d_cancel {G : mG} {l : Launch} (d : Nat) {h : mH} {x s : Nat} {f4 f6 f8 f9 f10 f11 f12 f13 f14 f16 f18 : Int} {m kp was pool tape pln pap rwd rw : Nat → Int}(hB : isM h x (mFs x f4 f6 f8 f9 f10 f11 f12 f13 f14 f16 f18 s) m kp was pool tape pln pap rwd rw) {p : Nat} (hp : p + 40 ≤ 12342) (hPo : ∀ q, InR (pool q)) (hok : mOk m) {s2 : Int} (hs : InR s2) (hk : pool p = 107) (hc : 48 ≤ pool (p + 1) ∧ pool (p + 1) ≤ 57) : RUNM G l (d + 3) mX11_does [.ref x, .int (J (p : Int)), .int (J s2)] h (fun v h' => v = some (.int (J (if (pool (p + 1) - 48) ≤ m 3 - 1 ∧ m (1610 + 72 * (pool (p + 1) - 48)).toNat = 0 then 0 else 106))) ∧ isM h' x (mFs x f4 f6 f8 f9 f10 f11 f12 f13 f14 f16 f18 s) (if (pool (p + 1) - 48) ≤ m 3 - 1 ∧ m (1610 + 72 * (pool (p + 1) - 48)).toNat = 0 then updI m (1614 + 72 * (pool (p + 1) - 48)).toNat 1 else m) kp was pool tape pln pap rwd rw ∧ Same (mBlk x) h h') := by
  obtain ⟨hM, k0, k1, k2, k3, k4, k5, k7⟩ := hok
  have hB0 := hB
  dsimp only [mFs] at hB
  have rp := hPo p
  have rc := hPo (p + 1)
  refine RUNM.of (by decide +kernel) (Nat.le_of_ble_eq_true rfl) ?_
  refine r_aload_n (pc := 0) dX11_does_0 rfl (by first | rfl | exact isRefV_rf _) ?_
  refine rm_getf (pc := 1) dX11_does_1 fX11_21 (by assumption) rfl ?_
  refine r_iload_n (pc := 4) dX11_does_4 rfl ?_
  refine rj_iald (pc := 5) (j := p) dX11_does_5 (by first | exact isM.g0 (by assumption) | exact isM.g3 (by assumption) | exact isM.g4 (by assumption) | exact isM.g8 (by assumption) | exact isM.g7 (by assumption) | exact isM.g6 (by assumption) | exact isM.g5 (by assumption) | exact isM.g1 (by assumption) | exact isM.g2 (by assumption)) (by first | assumption | exact b01_r | exact bz_r | omega | (constructor <;> omega) | exact hM _ | exact hPo _ | exact hTa _ | exact hRo _) (by first | assumption | exact b01_r | exact bz_r | omega | (constructor <;> omega) | exact hM _ | exact hPo _ | exact hTa _ | exact hRo _) (by first | assumption | exact b01_r | exact bz_r | omega | (constructor <;> omega) | exact hM _ | exact hPo _ | exact hTa _ | exact hRo _) (by omega) ?_
  refine rj_lsw (pc := 6) dX11_does_6 rfl (by first | assumption | exact b01_r | exact bz_r | omega | (constructor <;> omega) | exact hM _ | exact hPo _ | exact hTa _ | exact hRo _) (by simp only [Op.lookupswitch.offset_cons, Op.lookupswitch.offset_nil]; repeat' split; all_goals omega) (fun off_6 tgt_6 ho_6 ht_6 => ?_)
  simp only [Op.lookupswitch.offset_cons, Op.lookupswitch.offset_nil] at ho_6
  by_cases e_6_33 : (33 : Int) = pool p
  · rw [if_pos e_6_33] at ho_6
    obtain rfl : tgt_6 = 103 := by omega
    exfalso; omega
  rw [if_neg e_6_33] at ho_6
  by_cases e_6_43 : (43 : Int) = pool p
  · rw [if_pos e_6_43] at ho_6
    obtain rfl : tgt_6 = 72 := by omega
    exfalso; omega
  rw [if_neg e_6_43] at ho_6
  by_cases e_6_63 : (63 : Int) = pool p
  · rw [if_pos e_6_63] at ho_6
    obtain rfl : tgt_6 = 273 := by omega
    exfalso; omega
  rw [if_neg e_6_63] at ho_6
  by_cases e_6_97 : (97 : Int) = pool p
  · rw [if_pos e_6_97] at ho_6
    obtain rfl : tgt_6 = 111 := by omega
    exfalso; omega
  rw [if_neg e_6_97] at ho_6
  by_cases e_6_107 : (107 : Int) = pool p
  · rw [if_pos e_6_107] at ho_6
    obtain rfl : tgt_6 = 227 := by omega
    refine r_aload_n (pc := 227) dX11_does_227 rfl (by first | rfl | exact isRefV_rf _) ?_
    refine rm_getf (pc := 228) dX11_does_228 fX11_21 (by assumption) rfl ?_
    refine r_iload_n (pc := 231) dX11_does_231 rfl ?_
    refine rj_iconst (pc := 232) dX11_does_232 ?_
    refine rj_iadd (pc := 233) dX11_does_233 ?_
    refine rj_iald (pc := 234) (j := p + 1) dX11_does_234 (by first | exact isM.g0 (by assumption) | exact isM.g3 (by assumption) | exact isM.g4 (by assumption) | exact isM.g8 (by assumption) | exact isM.g7 (by assumption) | exact isM.g6 (by assumption) | exact isM.g5 (by assumption) | exact isM.g1 (by assumption) | exact isM.g2 (by assumption)) (by first | assumption | exact b01_r | exact bz_r | omega | (constructor <;> omega) | exact hM _ | exact hPo _ | exact hTa _ | exact hRo _) (by first | assumption | exact b01_r | exact bz_r | omega | (constructor <;> omega) | exact hM _ | exact hPo _ | exact hTa _ | exact hRo _) (by first | assumption | exact b01_r | exact bz_r | omega | (constructor <;> omega) | exact hM _ | exact hPo _ | exact hTa _ | exact hRo _) (by omega) ?_
    refine rj_bipush (pc := 235) dX11_does_235 (by decide +kernel) ?_
    refine rj_isub (pc := 237) dX11_does_237 ?_
    refine r_istore_n (pc := 238) dX11_does_238 (Nat.le_of_ble_eq_true rfl) ?_
    dsimp only [lsSt, List.set, mLs, mEnt]
    refine r_aload_n (pc := 239) dX11_does_239 rfl (by first | rfl | exact isRefV_rf _) ?_
    refine r_iload_n (pc := 240) dX11_does_240 rfl ?_
    refine r_callV1 (pc := 241) dX11_does_241 qX11_isTask kX11_180 vX11_isTask (by exact isM.gx (by assumption)) rfl rfl (Nat.le_of_ble_eq_true rfl) (m_isTask _ hB0 ⟨by omega, by omega⟩ ⟨by omega, by omega⟩) (fun v_241 h_241 q_241 => ?_)
    obtain ⟨rfl, rfl⟩ := q_241
    refine rj_if_eq (pc := 244) (tgt := 255) dX11_does_244 (by decide) (by first | assumption | exact b01_r | exact bz_r | omega | (constructor <;> omega) | exact hM _ | exact hPo _ | exact hTa _ | exact hRo _) (fun c_244 => ?_) (fun c_244 => ?_)
    · try simp only [b01_0, bz_0, Classical.not_not] at c_244
      refine rj_bipush (pc := 255) dX11_does_255 (by decide +kernel) ?_
      refine r_ireturn (pc := 257) .int dX11_does_257 rfl (by first | rfl | assumption) ?_
      first | (rw [if_neg (fun q => c_244 ⟨by omega, q.1⟩), if_neg (fun q => c_244 ⟨by omega, q.1⟩)]; exact ⟨rfl, hB0, Same.refl⟩) | (rw [if_neg (fun q => c_252 q.2), if_neg (fun q => c_252 q.2)]; exact ⟨rfl, hB0, Same.refl⟩)
    · try simp only [b01_0, bz_0, Classical.not_not] at c_244
      refine r_aload_n (pc := 247) dX11_does_247 rfl (by first | rfl | exact isRefV_rf _) ?_
      refine r_iload_n (pc := 248) dX11_does_248 rfl ?_
      refine r_callV1 (pc := 249) dX11_does_249 qX11_isReady kX11_183 vX11_isReady (by exact isM.gx (by assumption)) rfl rfl (Nat.le_of_ble_eq_true rfl) (m_isReady _ hB0 hM (by omega) (by omega)) (fun v_249 h_249 q_249 => ?_)
      obtain ⟨rfl, rfl⟩ := q_249
      refine rj_if_ne (pc := 252) (tgt := 258) dX11_does_252 (by decide) (by first | assumption | exact b01_r | exact bz_r | omega | (constructor <;> omega) | exact hM _ | exact hPo _ | exact hTa _ | exact hRo _) (fun c_252 => ?_) (fun c_252 => ?_)
      · try simp only [b01_0, bz_0, Classical.not_not] at c_252
        refine r_aload_n (pc := 258) dX11_does_258 rfl (by first | rfl | exact isRefV_rf _) ?_
        refine rm_getf (pc := 259) dX11_does_259 fX11_11 (by assumption) rfl ?_
        refine r_iload_n (pc := 262) dX11_does_262 rfl ?_
        refine rj_bipush (pc := 263) dX11_does_263 (by decide +kernel) ?_
        refine rj_iconst (pc := 265) dX11_does_265 ?_
        refine r_callS3 (pc := 266) dX11_does_266 qX11_ofTask kX11_58 sX11_ofTask (Nat.le_of_ble_eq_true rfl) (m_ofTask _) (fun v_266 h_266 q_266 => ?_)
        obtain ⟨rfl, rfl⟩ := q_266
        refine rj_iconst (pc := 269) dX11_does_269 ?_
        first | refine rm_iast0 (pc := 270) (j := (1614 + 72 * (pool (p + 1) - 48)).toNat) dX11_does_270 (by assumption) (by first | assumption | exact b01_r | exact bz_r | omega | (constructor <;> omega) | exact hM _ | exact hPo _ | exact hTa _ | exact hRo _) (by first | assumption | exact b01_r | exact bz_r | omega | (constructor <;> omega) | exact hM _ | exact hPo _ | exact hTa _ | exact hRo _) (by first | assumption | exact b01_r | exact bz_r | omega | (constructor <;> omega) | exact hM _ | exact hPo _ | exact hTa _ | exact hRo _) (by omega) (fun h_270 hB_270 hS_270 => ?_)
        refine rj_iconst (pc := 271) dX11_does_271 ?_
        refine r_ireturn (pc := 272) .int dX11_does_272 rfl (by first | rfl | assumption) ?_
        rw [if_pos ⟨c_244.2, c_252⟩, if_pos ⟨c_244.2, c_252⟩]
        exact ⟨rfl, hB_270, hS_270⟩
      · try simp only [b01_0, bz_0, Classical.not_not] at c_252
        refine rj_bipush (pc := 255) dX11_does_255 (by decide +kernel) ?_
        refine r_ireturn (pc := 257) .int dX11_does_257 rfl (by first | rfl | assumption) ?_
        first | (rw [if_neg (fun q => c_244 ⟨by omega, q.1⟩), if_neg (fun q => c_244 ⟨by omega, q.1⟩)]; exact ⟨rfl, hB0, Same.refl⟩) | (rw [if_neg (fun q => c_252 q.2), if_neg (fun q => c_252 q.2)]; exact ⟨rfl, hB0, Same.refl⟩)
  rw [if_neg e_6_107] at ho_6
  by_cases e_6_109 : (109 : Int) = pool p
  · rw [if_pos e_6_109] at ho_6
    obtain rfl : tgt_6 = 159 := by omega
    exfalso; omega
  rw [if_neg e_6_109] at ho_6
  by_cases e_6_120 : (120 : Int) = pool p
  · rw [if_pos e_6_120] at ho_6
    obtain rfl : tgt_6 = 120 := by omega
    exfalso; omega
  rw [if_neg e_6_120] at ho_6
  obtain rfl : tgt_6 = 336 := by omega
  exfalso; omega

/-! ===== the reference: a step, by its kind: x, m, ? ===== -/
theorem neL_ge {pool : Nat → Int} : ∀ n k : Nat, k ≤ neL pool n k ∧ neL pool n k ≤ k + n
  | 0, k => by unfold neL; omega
  | n + 1, k => by
    have h := neL_ge (pool := pool) n (k + 1)
    unfold neL
    split <;> omega
theorem hbL_lt {m rc : Nat → Int} {fr to : Nat} : ∀ n t : Nat, 0 ≤ hbL m rc fr to n t → hbL m rc fr to n t < t + n
  | 0, t, h => by unfold hbL at h; omega
  | n + 1, t, h => by
    unfold hbL at h
    unfold hbL
    split
    · omega
    · rename_i c
      rw [if_neg c] at h
      have := hbL_lt n (t + 1) h
      omega
set_option maxHeartbeats 4000000 in
set_option maxRecDepth 100000 in
theorem d_closeN {G : mG} {l : Launch} (d : Nat) {h : mH} {x s : Nat} {f4 f6 f8 f9 f10 f11 f12 f13 f14 f16 f18 : Int} {m kp was pool tape pln pap rwd rw : Nat → Int}(hB : isM h x (mFs x f4 f6 f8 f9 f10 f11 f12 f13 f14 f16 f18 s) m kp was pool tape pln pap rwd rw) {p : Nat} (hp : p + 40 ≤ 12342) (hPo : ∀ q, InR (pool q)) (hok : mOk m) {s2 : Int} (hs : InR s2) (hk : pool p = 120) {N : Nat} (hN : m 1 = (N : Int)) {e : Nat} (he : neL pool 7 (p + 1) = e) (ht : (hbL m pool (p + 1) e N 0) < 0) : RUNM G l (d + 4) mX11_does [.ref x, .int (J (p : Int)), .int (J s2)] h (fun v h' => v = some (.int (J 104)) ∧ h' = h) := by
  obtain ⟨hM, k0, k1, k2, k3, k4, k5, k7⟩ := hok
  have hB0 := hB
  dsimp only [mFs] at hB
  have rp := hPo p
  have ge := neL_ge (pool := pool) 7 (p + 1)
  rw [he] at ge
  have hr := hbL_r (m := m) (rc := pool) (fr := p + 1) (to := e) N 0
  refine RUNM.of (by decide +kernel) (Nat.le_of_ble_eq_true rfl) ?_
  refine r_aload_n (pc := 0) dX11_does_0 rfl (by first | rfl | exact isRefV_rf _) ?_
  refine rm_getf (pc := 1) dX11_does_1 fX11_21 (by assumption) rfl ?_
  refine r_iload_n (pc := 4) dX11_does_4 rfl ?_
  refine rj_iald (pc := 5) (j := p) dX11_does_5 (by first | exact isM.g0 (by assumption) | exact isM.g3 (by assumption) | exact isM.g4 (by assumption) | exact isM.g8 (by assumption) | exact isM.g7 (by assumption) | exact isM.g6 (by assumption) | exact isM.g5 (by assumption) | exact isM.g1 (by assumption) | exact isM.g2 (by assumption)) (by first | assumption | exact b01_r | exact bz_r | omega | (constructor <;> omega) | exact hM _ | exact hPo _ | exact hTa _ | exact hRo _) (by first | assumption | exact b01_r | exact bz_r | omega | (constructor <;> omega) | exact hM _ | exact hPo _ | exact hTa _ | exact hRo _) (by first | assumption | exact b01_r | exact bz_r | omega | (constructor <;> omega) | exact hM _ | exact hPo _ | exact hTa _ | exact hRo _) (by omega) ?_
  refine rj_lsw (pc := 6) dX11_does_6 rfl (by first | assumption | exact b01_r | exact bz_r | omega | (constructor <;> omega) | exact hM _ | exact hPo _ | exact hTa _ | exact hRo _) (lsw_pos _ (by decide +kernel) (by decide +kernel)) (fun off_6 tgt_6 ho_6 ht_6 => ?_)
  simp only [Op.lookupswitch.offset_cons, Op.lookupswitch.offset_nil] at ho_6
  by_cases e_6_33 : (33 : Int) = pool p
  · rw [if_pos e_6_33] at ho_6
    obtain rfl : tgt_6 = 103 := by omega
    exfalso; omega
  rw [if_neg e_6_33] at ho_6
  by_cases e_6_43 : (43 : Int) = pool p
  · rw [if_pos e_6_43] at ho_6
    obtain rfl : tgt_6 = 72 := by omega
    exfalso; omega
  rw [if_neg e_6_43] at ho_6
  by_cases e_6_63 : (63 : Int) = pool p
  · rw [if_pos e_6_63] at ho_6
    obtain rfl : tgt_6 = 273 := by omega
    exfalso; omega
  rw [if_neg e_6_63] at ho_6
  by_cases e_6_97 : (97 : Int) = pool p
  · rw [if_pos e_6_97] at ho_6
    obtain rfl : tgt_6 = 111 := by omega
    exfalso; omega
  rw [if_neg e_6_97] at ho_6
  by_cases e_6_107 : (107 : Int) = pool p
  · rw [if_pos e_6_107] at ho_6
    obtain rfl : tgt_6 = 227 := by omega
    exfalso; omega
  rw [if_neg e_6_107] at ho_6
  by_cases e_6_109 : (109 : Int) = pool p
  · rw [if_pos e_6_109] at ho_6
    obtain rfl : tgt_6 = 159 := by omega
    exfalso; omega
  rw [if_neg e_6_109] at ho_6
  by_cases e_6_120 : (120 : Int) = pool p
  · rw [if_pos e_6_120] at ho_6
    obtain rfl : tgt_6 = 120 := by omega
    refine r_aload_n (pc := 120) dX11_does_120 rfl (by first | rfl | exact isRefV_rf _) ?_
    refine r_aload_n (pc := 121) dX11_does_121 rfl (by first | rfl | exact isRefV_rf _) ?_
    refine rm_getf (pc := 122) dX11_does_122 fX11_21 (by assumption) rfl ?_
    refine r_iload_n (pc := 125) dX11_does_125 rfl ?_
    refine rj_iconst (pc := 126) dX11_does_126 ?_
    refine rj_iadd (pc := 127) dX11_does_127 ?_
    refine r_aload_n (pc := 128) dX11_does_128 rfl (by first | rfl | exact isRefV_rf _) ?_
    refine r_iload_n (pc := 129) dX11_does_129 rfl ?_
    refine rj_iconst (pc := 130) dX11_does_130 ?_
    refine rj_iadd (pc := 131) dX11_does_131 ?_
    refine r_callV1 (pc := 132) dX11_does_132 qX11_nameEnd kX11_160 vX11_nameEnd (by exact isM.gx (by assumption)) rfl rfl (Nat.le_of_ble_eq_true rfl) (by have y := m_nameEnd (G := G) (l := l) (d + 2) hB0 hPo (p := p + 1) (by omega); rw [he, show ((p + 1 : Nat) : Int) = (p : Int) + 1 by omega] at y; exact y) (fun v_132 h_132 q_132 => ?_)
    obtain ⟨rfl, rfl⟩ := q_132
    refine r_callV3 (pc := 135) dX11_does_135 qX11_heldBy kX11_163 vX11_heldBy (by exact isM.gx (by assumption)) rfl rfl (Nat.le_of_ble_eq_true rfl) (by have y := m_heldBy (G := G) (l := l) d hB0 hM (rs := 3) (rc := pool) (fr := p + 1) (to := e) (Or.inr ⟨rfl, rfl, by omega⟩) (by omega) hPo hN (by omega) (fun t ht => k7 t (by omega)); rw [show ((p + 1 : Nat) : Int) = (p : Int) + 1 by omega] at y; exact y) (fun v_135 h_135 q_135 => ?_)
    obtain ⟨rfl, rfl⟩ := q_135
    refine r_istore_n (pc := 138) dX11_does_138 (Nat.le_of_ble_eq_true rfl) ?_
    dsimp only [lsSt, List.set, mLs, mEnt]
    refine r_iload_n (pc := 139) dX11_does_139 rfl ?_
    refine rj_if_lt (pc := 140) (tgt := 148) dX11_does_140 (by decide) (by first | assumption | exact b01_r | exact bz_r | omega | (constructor <;> omega) | exact hM _ | exact hPo _ | exact hTa _ | exact hRo _) (fun c_140 => ?_) (fun c_140 => ?_)
    · refine r_iload_n (pc := 148) dX11_does_148 rfl ?_
      refine rj_if_ge (pc := 149) (tgt := 157) dX11_does_149 (by decide) (by first | assumption | exact b01_r | exact bz_r | omega | (constructor <;> omega) | exact hM _ | exact hPo _ | exact hTa _ | exact hRo _) (fun c_149 => ?_) (fun c_149 => ?_)
      · exfalso; omega
      · refine rj_bipush (pc := 152) dX11_does_152 (by decide +kernel) ?_
        refine r_goto (pc := 154) (tgt := 158) dX11_does_154 (by decide) ?_
        refine r_ireturn (pc := 158) .int dX11_does_158 rfl (by first | rfl | assumption) ?_
        exact ⟨rfl, rfl⟩
    · exfalso; omega
  rw [if_neg e_6_120] at ho_6
  obtain rfl : tgt_6 = 336 := by omega
  exfalso; omega
set_option maxHeartbeats 4000000 in
set_option maxRecDepth 100000 in
theorem d_closeY {G : mG} {l : Launch} (d : Nat) {h : mH} {x s : Nat} {f4 f6 f8 f9 f10 f11 f12 f13 f14 f16 f18 : Int} {m kp was pool tape pln pap rwd rw : Nat → Int}(hB : isM h x (mFs x f4 f6 f8 f9 f10 f11 f12 f13 f14 f16 f18 s) m kp was pool tape pln pap rwd rw) {p : Nat} (hp : p + 40 ≤ 12342) (hPo : ∀ q, InR (pool q)) (hok : mOk m) {s2 : Int} (hs : InR s2) (hk : pool p = 120) {N : Nat} (hN : m 1 = (N : Int)) {e : Nat} (he : neL pool 7 (p + 1) = e) (ht : 0 ≤ (hbL m pool (p + 1) e N 0)) {m2 : Nat → Int} {D : Nat} (hcl : RUNM G l D mX11_closes [.ref x, .int (J (hbL m pool (p + 1) e N 0))] h (fun v h' => v = none ∧ isM h' x (mFs x f4 f6 f8 f9 f10 f11 f12 f13 f14 f16 f18 s) m2 kp was pool tape pln pap rwd rw ∧ Same (mBlk x) h h')) (hD : d + 4 ≤ D) : RUNM G l (D + 1) mX11_does [.ref x, .int (J (p : Int)), .int (J s2)] h (fun v h' => v = some (.int (J 0)) ∧ isM h' x (mFs x f4 f6 f8 f9 f10 f11 f12 f13 f14 f16 f18 s) m2 kp was pool tape pln pap rwd rw ∧ Same (mBlk x) h h') := by
  obtain ⟨hM, k0, k1, k2, k3, k4, k5, k7⟩ := hok
  have hB0 := hB
  dsimp only [mFs] at hB
  have rp := hPo p
  have ge := neL_ge (pool := pool) 7 (p + 1)
  rw [he] at ge
  have hr := hbL_r (m := m) (rc := pool) (fr := p + 1) (to := e) N 0
  refine RUNM.of (by decide +kernel) (Nat.le_of_ble_eq_true rfl) ?_
  refine r_aload_n (pc := 0) dX11_does_0 rfl (by first | rfl | exact isRefV_rf _) ?_
  refine rm_getf (pc := 1) dX11_does_1 fX11_21 (by assumption) rfl ?_
  refine r_iload_n (pc := 4) dX11_does_4 rfl ?_
  refine rj_iald (pc := 5) (j := p) dX11_does_5 (by first | exact isM.g0 (by assumption) | exact isM.g3 (by assumption) | exact isM.g4 (by assumption) | exact isM.g8 (by assumption) | exact isM.g7 (by assumption) | exact isM.g6 (by assumption) | exact isM.g5 (by assumption) | exact isM.g1 (by assumption) | exact isM.g2 (by assumption)) (by first | assumption | exact b01_r | exact bz_r | omega | (constructor <;> omega) | exact hM _ | exact hPo _ | exact hTa _ | exact hRo _) (by first | assumption | exact b01_r | exact bz_r | omega | (constructor <;> omega) | exact hM _ | exact hPo _ | exact hTa _ | exact hRo _) (by first | assumption | exact b01_r | exact bz_r | omega | (constructor <;> omega) | exact hM _ | exact hPo _ | exact hTa _ | exact hRo _) (by omega) ?_
  refine rj_lsw (pc := 6) dX11_does_6 rfl (by first | assumption | exact b01_r | exact bz_r | omega | (constructor <;> omega) | exact hM _ | exact hPo _ | exact hTa _ | exact hRo _) (lsw_pos _ (by decide +kernel) (by decide +kernel)) (fun off_6 tgt_6 ho_6 ht_6 => ?_)
  simp only [Op.lookupswitch.offset_cons, Op.lookupswitch.offset_nil] at ho_6
  by_cases e_6_33 : (33 : Int) = pool p
  · rw [if_pos e_6_33] at ho_6
    obtain rfl : tgt_6 = 103 := by omega
    exfalso; omega
  rw [if_neg e_6_33] at ho_6
  by_cases e_6_43 : (43 : Int) = pool p
  · rw [if_pos e_6_43] at ho_6
    obtain rfl : tgt_6 = 72 := by omega
    exfalso; omega
  rw [if_neg e_6_43] at ho_6
  by_cases e_6_63 : (63 : Int) = pool p
  · rw [if_pos e_6_63] at ho_6
    obtain rfl : tgt_6 = 273 := by omega
    exfalso; omega
  rw [if_neg e_6_63] at ho_6
  by_cases e_6_97 : (97 : Int) = pool p
  · rw [if_pos e_6_97] at ho_6
    obtain rfl : tgt_6 = 111 := by omega
    exfalso; omega
  rw [if_neg e_6_97] at ho_6
  by_cases e_6_107 : (107 : Int) = pool p
  · rw [if_pos e_6_107] at ho_6
    obtain rfl : tgt_6 = 227 := by omega
    exfalso; omega
  rw [if_neg e_6_107] at ho_6
  by_cases e_6_109 : (109 : Int) = pool p
  · rw [if_pos e_6_109] at ho_6
    obtain rfl : tgt_6 = 159 := by omega
    exfalso; omega
  rw [if_neg e_6_109] at ho_6
  by_cases e_6_120 : (120 : Int) = pool p
  · rw [if_pos e_6_120] at ho_6
    obtain rfl : tgt_6 = 120 := by omega
    refine r_aload_n (pc := 120) dX11_does_120 rfl (by first | rfl | exact isRefV_rf _) ?_
    refine r_aload_n (pc := 121) dX11_does_121 rfl (by first | rfl | exact isRefV_rf _) ?_
    refine rm_getf (pc := 122) dX11_does_122 fX11_21 (by assumption) rfl ?_
    refine r_iload_n (pc := 125) dX11_does_125 rfl ?_
    refine rj_iconst (pc := 126) dX11_does_126 ?_
    refine rj_iadd (pc := 127) dX11_does_127 ?_
    refine r_aload_n (pc := 128) dX11_does_128 rfl (by first | rfl | exact isRefV_rf _) ?_
    refine r_iload_n (pc := 129) dX11_does_129 rfl ?_
    refine rj_iconst (pc := 130) dX11_does_130 ?_
    refine rj_iadd (pc := 131) dX11_does_131 ?_
    refine r_callV1 (pc := 132) dX11_does_132 qX11_nameEnd kX11_160 vX11_nameEnd (by exact isM.gx (by assumption)) rfl rfl (Nat.le_of_ble_eq_true rfl) (by have y := m_nameEnd (G := G) (l := l) (D - 1) hB0 hPo (p := p + 1) (by omega); rw [he, show ((p + 1 : Nat) : Int) = (p : Int) + 1 by omega] at y; exact y.deeper (by omega)) (fun v_132 h_132 q_132 => ?_)
    obtain ⟨rfl, rfl⟩ := q_132
    refine r_callV3 (pc := 135) dX11_does_135 qX11_heldBy kX11_163 vX11_heldBy (by exact isM.gx (by assumption)) rfl rfl (Nat.le_of_ble_eq_true rfl) (by have y := m_heldBy (G := G) (l := l) d hB0 hM (rs := 3) (rc := pool) (fr := p + 1) (to := e) (Or.inr ⟨rfl, rfl, by omega⟩) (by omega) hPo hN (by omega) (fun t ht => k7 t (by omega)); rw [show ((p + 1 : Nat) : Int) = (p : Int) + 1 by omega] at y; exact y.deeper (by omega)) (fun v_135 h_135 q_135 => ?_)
    obtain ⟨rfl, rfl⟩ := q_135
    refine r_istore_n (pc := 138) dX11_does_138 (Nat.le_of_ble_eq_true rfl) ?_
    dsimp only [lsSt, List.set, mLs, mEnt]
    refine r_iload_n (pc := 139) dX11_does_139 rfl ?_
    refine rj_if_lt (pc := 140) (tgt := 148) dX11_does_140 (by decide) (by first | assumption | exact b01_r | exact bz_r | omega | (constructor <;> omega) | exact hM _ | exact hPo _ | exact hTa _ | exact hRo _) (fun c_140 => ?_) (fun c_140 => ?_)
    · exfalso; omega
    · refine r_aload_n (pc := 143) dX11_does_143 rfl (by first | rfl | exact isRefV_rf _) ?_
      refine r_iload_n (pc := 144) dX11_does_144 rfl ?_
      refine r_callV1 (pc := 145) dX11_does_145 qX11_closes kX11_153 vX11_closes (by exact isM.gx (by assumption)) rfl rfl (Nat.le_of_ble_eq_true rfl) hcl (fun v_145 h_145 q_145 => ?_)
      obtain ⟨rfl, hB_145, S_145⟩ := q_145
      refine r_iload_n (pc := 148) dX11_does_148 rfl ?_
      refine rj_if_ge (pc := 149) (tgt := 157) dX11_does_149 (by decide) (by first | assumption | exact b01_r | exact bz_r | omega | (constructor <;> omega) | exact hM _ | exact hPo _ | exact hTa _ | exact hRo _) (fun c_149 => ?_) (fun c_149 => ?_)
      · refine rj_iconst (pc := 157) dX11_does_157 ?_
        refine r_ireturn (pc := 158) .int dX11_does_158 rfl (by first | rfl | assumption) ?_
        exact ⟨rfl, hB_145, S_145⟩
      · exfalso; omega
  rw [if_neg e_6_120] at ho_6
  obtain rfl : tgt_6 = 336 := by omega
  exfalso; omega
set_option maxHeartbeats 4000000 in
set_option maxRecDepth 100000 in
theorem d_moveN {G : mG} {l : Launch} (d : Nat) {h : mH} {x s : Nat} {f4 f6 f8 f9 f10 f11 f12 f13 f14 f16 f18 : Int} {m kp was pool tape pln pap rwd rw : Nat → Int}(hB : isM h x (mFs x f4 f6 f8 f9 f10 f11 f12 f13 f14 f16 f18 s) m kp was pool tape pln pap rwd rw) {p : Nat} (hp : p + 40 ≤ 12342) (hPo : ∀ q, InR (pool q)) (hok : mOk m) {s2 : Int} (hs : InR s2) (hk : pool p = 109) {N : Nat} (hN : m 1 = (N : Int)) {e : Nat} (he : neL pool 7 (p + 1) = e) {n : Nat} (hn : n ≤ 20) (hst : stopsBy pool n (if pool (e + 1) = 45 then e + 1 + 1 else e + 1)) (hnr : InR (numAt pool n (e + 1))) (ht : (hbL m pool (p + 1) e N 0) < 0) : RUNM G l (d + 5) mX11_does [.ref x, .int (J (p : Int)), .int (J s2)] h (fun v h' => v = some (.int (J 104)) ∧ h' = h) := by
  obtain ⟨hM, k0, k1, k2, k3, k4, k5, k7⟩ := hok
  have hB0 := hB
  dsimp only [mFs] at hB
  have rp := hPo p
  have ge := neL_ge (pool := pool) 7 (p + 1)
  rw [he] at ge
  have hr := hbL_r (m := m) (rc := pool) (fr := p + 1) (to := e) N 0
  refine RUNM.of (by decide +kernel) (Nat.le_of_ble_eq_true rfl) ?_
  refine r_aload_n (pc := 0) dX11_does_0 rfl (by first | rfl | exact isRefV_rf _) ?_
  refine rm_getf (pc := 1) dX11_does_1 fX11_21 (by assumption) rfl ?_
  refine r_iload_n (pc := 4) dX11_does_4 rfl ?_
  refine rj_iald (pc := 5) (j := p) dX11_does_5 (by first | exact isM.g0 (by assumption) | exact isM.g3 (by assumption) | exact isM.g4 (by assumption) | exact isM.g8 (by assumption) | exact isM.g7 (by assumption) | exact isM.g6 (by assumption) | exact isM.g5 (by assumption) | exact isM.g1 (by assumption) | exact isM.g2 (by assumption)) (by first | assumption | exact b01_r | exact bz_r | omega | (constructor <;> omega) | exact hM _ | exact hPo _ | exact hTa _ | exact hRo _) (by first | assumption | exact b01_r | exact bz_r | omega | (constructor <;> omega) | exact hM _ | exact hPo _ | exact hTa _ | exact hRo _) (by first | assumption | exact b01_r | exact bz_r | omega | (constructor <;> omega) | exact hM _ | exact hPo _ | exact hTa _ | exact hRo _) (by omega) ?_
  refine rj_lsw (pc := 6) dX11_does_6 rfl (by first | assumption | exact b01_r | exact bz_r | omega | (constructor <;> omega) | exact hM _ | exact hPo _ | exact hTa _ | exact hRo _) (lsw_pos _ (by decide +kernel) (by decide +kernel)) (fun off_6 tgt_6 ho_6 ht_6 => ?_)
  simp only [Op.lookupswitch.offset_cons, Op.lookupswitch.offset_nil] at ho_6
  by_cases e_6_33 : (33 : Int) = pool p
  · rw [if_pos e_6_33] at ho_6
    obtain rfl : tgt_6 = 103 := by omega
    exfalso; omega
  rw [if_neg e_6_33] at ho_6
  by_cases e_6_43 : (43 : Int) = pool p
  · rw [if_pos e_6_43] at ho_6
    obtain rfl : tgt_6 = 72 := by omega
    exfalso; omega
  rw [if_neg e_6_43] at ho_6
  by_cases e_6_63 : (63 : Int) = pool p
  · rw [if_pos e_6_63] at ho_6
    obtain rfl : tgt_6 = 273 := by omega
    exfalso; omega
  rw [if_neg e_6_63] at ho_6
  by_cases e_6_97 : (97 : Int) = pool p
  · rw [if_pos e_6_97] at ho_6
    obtain rfl : tgt_6 = 111 := by omega
    exfalso; omega
  rw [if_neg e_6_97] at ho_6
  by_cases e_6_107 : (107 : Int) = pool p
  · rw [if_pos e_6_107] at ho_6
    obtain rfl : tgt_6 = 227 := by omega
    exfalso; omega
  rw [if_neg e_6_107] at ho_6
  by_cases e_6_109 : (109 : Int) = pool p
  · rw [if_pos e_6_109] at ho_6
    obtain rfl : tgt_6 = 159 := by omega
    refine r_aload_n (pc := 159) dX11_does_159 rfl (by first | rfl | exact isRefV_rf _) ?_
    refine r_iload_n (pc := 160) dX11_does_160 rfl ?_
    refine rj_iconst (pc := 161) dX11_does_161 ?_
    refine rj_iadd (pc := 162) dX11_does_162 ?_
    refine r_callV1 (pc := 163) dX11_does_163 qX11_nameEnd kX11_160 vX11_nameEnd (by exact isM.gx (by assumption)) rfl rfl (Nat.le_of_ble_eq_true rfl) (by have y := m_nameEnd (G := G) (l := l) (d + 3) hB0 hPo (p := p + 1) (by omega); rw [he, show ((p + 1 : Nat) : Int) = (p : Int) + 1 by omega] at y; exact y) (fun v_163 h_163 q_163 => ?_)
    obtain ⟨rfl, rfl⟩ := q_163
    refine r_istore_n (pc := 166) dX11_does_166 (Nat.le_of_ble_eq_true rfl) ?_
    dsimp only [lsSt, List.set, mLs, mEnt]
    refine r_aload_n (pc := 167) dX11_does_167 rfl (by first | rfl | exact isRefV_rf _) ?_
    refine r_aload_n (pc := 168) dX11_does_168 rfl (by first | rfl | exact isRefV_rf _) ?_
    refine rm_getf (pc := 169) dX11_does_169 fX11_21 (by assumption) rfl ?_
    refine r_iload_n (pc := 172) dX11_does_172 rfl ?_
    refine rj_iconst (pc := 173) dX11_does_173 ?_
    refine rj_iadd (pc := 174) dX11_does_174 ?_
    refine r_iload_n (pc := 175) dX11_does_175 rfl ?_
    refine r_callV3 (pc := 176) dX11_does_176 qX11_heldBy kX11_163 vX11_heldBy (by exact isM.gx (by assumption)) rfl rfl (Nat.le_of_ble_eq_true rfl) (by have y := m_heldBy (G := G) (l := l) (d + 1) hB0 hM (rs := 3) (rc := pool) (fr := p + 1) (to := e) (Or.inr ⟨rfl, rfl, by omega⟩) (by omega) hPo hN (by omega) (fun t ht => k7 t (by omega)); rw [show ((p + 1 : Nat) : Int) = (p : Int) + 1 by omega] at y; exact y) (fun v_176 h_176 q_176 => ?_)
    obtain ⟨rfl, rfl⟩ := q_176
    refine r_istore (pc := 179) dX11_does_179 (Nat.le_of_ble_eq_true rfl) ?_
    dsimp only [lsSt, List.set, mLs, mEnt]
    refine r_aload_n (pc := 181) dX11_does_181 rfl (by first | rfl | exact isRefV_rf _) ?_
    refine r_iload_n (pc := 182) dX11_does_182 rfl ?_
    refine rj_iconst (pc := 183) dX11_does_183 ?_
    refine rj_iadd (pc := 184) dX11_does_184 ?_
    refine r_callV1 (pc := 185) dX11_does_185 qX11_numberAt kX11_171 vX11_numberAt (by exact isM.gx (by assumption)) rfl rfl (Nat.le_of_ble_eq_true rfl) (by have y := m_numberAt (G := G) (l := l) (d + 3) hB0 hPo (p := e + 1) (n := n) (by omega) hst; rw [show ((e + 1 : Nat) : Int) = (e : Int) + 1 by omega] at y; exact y) (fun v_185 h_185 q_185 => ?_)
    obtain ⟨rfl, rfl⟩ := q_185
    refine r_istore (pc := 188) dX11_does_188 (Nat.le_of_ble_eq_true rfl) ?_
    dsimp only [lsSt, List.set, mLs, mEnt]
    refine r_iload (pc := 190) dX11_does_190 rfl ?_
    refine rj_if_lt (pc := 192) (tgt := 204) dX11_does_192 (by decide) (by first | assumption | exact b01_r | exact bz_r | omega | (constructor <;> omega) | exact hM _ | exact hPo _ | exact hTa _ | exact hRo _) (fun c_192 => ?_) (fun c_192 => ?_)
    · refine r_iload (pc := 204) dX11_does_204 rfl ?_
      refine rj_if_ge (pc := 206) (tgt := 214) dX11_does_206 (by decide) (by first | assumption | exact b01_r | exact bz_r | omega | (constructor <;> omega) | exact hM _ | exact hPo _ | exact hTa _ | exact hRo _) (fun c_206 => ?_) (fun c_206 => ?_)
      · exfalso; omega
      · refine rj_bipush (pc := 209) dX11_does_209 (by decide +kernel) ?_
        refine r_goto (pc := 211) (tgt := 216) dX11_does_211 (by decide) ?_
        refine r_ireturn (pc := 216) .int dX11_does_216 rfl (by first | rfl | assumption) ?_
        exact ⟨rfl, rfl⟩
    · exfalso; omega
  rw [if_neg e_6_109] at ho_6
  by_cases e_6_120 : (120 : Int) = pool p
  · rw [if_pos e_6_120] at ho_6
    obtain rfl : tgt_6 = 120 := by omega
    exfalso; omega
  rw [if_neg e_6_120] at ho_6
  obtain rfl : tgt_6 = 336 := by omega
  exfalso; omega
set_option maxHeartbeats 4000000 in
set_option maxRecDepth 100000 in
theorem d_moveO {G : mG} {l : Launch} (d : Nat) {h : mH} {x s : Nat} {f4 f6 f8 f9 f10 f11 f12 f13 f14 f16 f18 : Int} {m kp was pool tape pln pap rwd rw : Nat → Int}(hB : isM h x (mFs x f4 f6 f8 f9 f10 f11 f12 f13 f14 f16 f18 s) m kp was pool tape pln pap rwd rw) {p : Nat} (hp : p + 40 ≤ 12342) (hPo : ∀ q, InR (pool q)) (hok : mOk m) {s2 : Int} (hs : InR s2) (hk : pool p = 109) {N : Nat} (hN : m 1 = (N : Int)) {e : Nat} (he : neL pool 7 (p + 1) = e) {n : Nat} (hn : n ≤ 20) (hst : stopsBy pool n (if pool (e + 1) = 45 then e + 1 + 1 else e + 1)) (hnr : InR (numAt pool n (e + 1))) (ht : 0 ≤ (hbL m pool (p + 1) e N 0)) (ho : ¬ openP m (numAt pool n (e + 1))) : RUNM G l (d + 5) mX11_does [.ref x, .int (J (p : Int)), .int (J s2)] h (fun v h' => v = some (.int (J 105)) ∧ h' = h) := by
  obtain ⟨hM, k0, k1, k2, k3, k4, k5, k7⟩ := hok
  have hB0 := hB
  dsimp only [mFs] at hB
  have rp := hPo p
  have ge := neL_ge (pool := pool) 7 (p + 1)
  rw [he] at ge
  have hr := hbL_r (m := m) (rc := pool) (fr := p + 1) (to := e) N 0
  refine RUNM.of (by decide +kernel) (Nat.le_of_ble_eq_true rfl) ?_
  refine r_aload_n (pc := 0) dX11_does_0 rfl (by first | rfl | exact isRefV_rf _) ?_
  refine rm_getf (pc := 1) dX11_does_1 fX11_21 (by assumption) rfl ?_
  refine r_iload_n (pc := 4) dX11_does_4 rfl ?_
  refine rj_iald (pc := 5) (j := p) dX11_does_5 (by first | exact isM.g0 (by assumption) | exact isM.g3 (by assumption) | exact isM.g4 (by assumption) | exact isM.g8 (by assumption) | exact isM.g7 (by assumption) | exact isM.g6 (by assumption) | exact isM.g5 (by assumption) | exact isM.g1 (by assumption) | exact isM.g2 (by assumption)) (by first | assumption | exact b01_r | exact bz_r | omega | (constructor <;> omega) | exact hM _ | exact hPo _ | exact hTa _ | exact hRo _) (by first | assumption | exact b01_r | exact bz_r | omega | (constructor <;> omega) | exact hM _ | exact hPo _ | exact hTa _ | exact hRo _) (by first | assumption | exact b01_r | exact bz_r | omega | (constructor <;> omega) | exact hM _ | exact hPo _ | exact hTa _ | exact hRo _) (by omega) ?_
  refine rj_lsw (pc := 6) dX11_does_6 rfl (by first | assumption | exact b01_r | exact bz_r | omega | (constructor <;> omega) | exact hM _ | exact hPo _ | exact hTa _ | exact hRo _) (lsw_pos _ (by decide +kernel) (by decide +kernel)) (fun off_6 tgt_6 ho_6 ht_6 => ?_)
  simp only [Op.lookupswitch.offset_cons, Op.lookupswitch.offset_nil] at ho_6
  by_cases e_6_33 : (33 : Int) = pool p
  · rw [if_pos e_6_33] at ho_6
    obtain rfl : tgt_6 = 103 := by omega
    exfalso; omega
  rw [if_neg e_6_33] at ho_6
  by_cases e_6_43 : (43 : Int) = pool p
  · rw [if_pos e_6_43] at ho_6
    obtain rfl : tgt_6 = 72 := by omega
    exfalso; omega
  rw [if_neg e_6_43] at ho_6
  by_cases e_6_63 : (63 : Int) = pool p
  · rw [if_pos e_6_63] at ho_6
    obtain rfl : tgt_6 = 273 := by omega
    exfalso; omega
  rw [if_neg e_6_63] at ho_6
  by_cases e_6_97 : (97 : Int) = pool p
  · rw [if_pos e_6_97] at ho_6
    obtain rfl : tgt_6 = 111 := by omega
    exfalso; omega
  rw [if_neg e_6_97] at ho_6
  by_cases e_6_107 : (107 : Int) = pool p
  · rw [if_pos e_6_107] at ho_6
    obtain rfl : tgt_6 = 227 := by omega
    exfalso; omega
  rw [if_neg e_6_107] at ho_6
  by_cases e_6_109 : (109 : Int) = pool p
  · rw [if_pos e_6_109] at ho_6
    obtain rfl : tgt_6 = 159 := by omega
    refine r_aload_n (pc := 159) dX11_does_159 rfl (by first | rfl | exact isRefV_rf _) ?_
    refine r_iload_n (pc := 160) dX11_does_160 rfl ?_
    refine rj_iconst (pc := 161) dX11_does_161 ?_
    refine rj_iadd (pc := 162) dX11_does_162 ?_
    refine r_callV1 (pc := 163) dX11_does_163 qX11_nameEnd kX11_160 vX11_nameEnd (by exact isM.gx (by assumption)) rfl rfl (Nat.le_of_ble_eq_true rfl) (by have y := m_nameEnd (G := G) (l := l) (d + 3) hB0 hPo (p := p + 1) (by omega); rw [he, show ((p + 1 : Nat) : Int) = (p : Int) + 1 by omega] at y; exact y) (fun v_163 h_163 q_163 => ?_)
    obtain ⟨rfl, rfl⟩ := q_163
    refine r_istore_n (pc := 166) dX11_does_166 (Nat.le_of_ble_eq_true rfl) ?_
    dsimp only [lsSt, List.set, mLs, mEnt]
    refine r_aload_n (pc := 167) dX11_does_167 rfl (by first | rfl | exact isRefV_rf _) ?_
    refine r_aload_n (pc := 168) dX11_does_168 rfl (by first | rfl | exact isRefV_rf _) ?_
    refine rm_getf (pc := 169) dX11_does_169 fX11_21 (by assumption) rfl ?_
    refine r_iload_n (pc := 172) dX11_does_172 rfl ?_
    refine rj_iconst (pc := 173) dX11_does_173 ?_
    refine rj_iadd (pc := 174) dX11_does_174 ?_
    refine r_iload_n (pc := 175) dX11_does_175 rfl ?_
    refine r_callV3 (pc := 176) dX11_does_176 qX11_heldBy kX11_163 vX11_heldBy (by exact isM.gx (by assumption)) rfl rfl (Nat.le_of_ble_eq_true rfl) (by have y := m_heldBy (G := G) (l := l) (d + 1) hB0 hM (rs := 3) (rc := pool) (fr := p + 1) (to := e) (Or.inr ⟨rfl, rfl, by omega⟩) (by omega) hPo hN (by omega) (fun t ht => k7 t (by omega)); rw [show ((p + 1 : Nat) : Int) = (p : Int) + 1 by omega] at y; exact y) (fun v_176 h_176 q_176 => ?_)
    obtain ⟨rfl, rfl⟩ := q_176
    refine r_istore (pc := 179) dX11_does_179 (Nat.le_of_ble_eq_true rfl) ?_
    dsimp only [lsSt, List.set, mLs, mEnt]
    refine r_aload_n (pc := 181) dX11_does_181 rfl (by first | rfl | exact isRefV_rf _) ?_
    refine r_iload_n (pc := 182) dX11_does_182 rfl ?_
    refine rj_iconst (pc := 183) dX11_does_183 ?_
    refine rj_iadd (pc := 184) dX11_does_184 ?_
    refine r_callV1 (pc := 185) dX11_does_185 qX11_numberAt kX11_171 vX11_numberAt (by exact isM.gx (by assumption)) rfl rfl (Nat.le_of_ble_eq_true rfl) (by have y := m_numberAt (G := G) (l := l) (d + 3) hB0 hPo (p := e + 1) (n := n) (by omega) hst; rw [show ((e + 1 : Nat) : Int) = (e : Int) + 1 by omega] at y; exact y) (fun v_185 h_185 q_185 => ?_)
    obtain ⟨rfl, rfl⟩ := q_185
    refine r_istore (pc := 188) dX11_does_188 (Nat.le_of_ble_eq_true rfl) ?_
    dsimp only [lsSt, List.set, mLs, mEnt]
    refine r_iload (pc := 190) dX11_does_190 rfl ?_
    refine rj_if_lt (pc := 192) (tgt := 204) dX11_does_192 (by decide) (by first | assumption | exact b01_r | exact bz_r | omega | (constructor <;> omega) | exact hM _ | exact hPo _ | exact hTa _ | exact hRo _) (fun c_192 => ?_) (fun c_192 => ?_)
    · exfalso; omega
    · refine r_aload_n (pc := 195) dX11_does_195 rfl (by first | rfl | exact isRefV_rf _) ?_
      refine r_iload (pc := 196) dX11_does_196 rfl ?_
      refine r_callV1 (pc := 198) dX11_does_198 qX11_isOpen kX11_146 vX11_isOpen (by exact isM.gx (by assumption)) rfl rfl (Nat.le_of_ble_eq_true rfl) (m_isOpen _ hB0 hM k0 hnr) (fun v_198 h_198 q_198 => ?_)
      obtain ⟨rfl, rfl⟩ := q_198
      refine rj_if_ne (pc := 201) (tgt := 217) dX11_does_201 (by decide) (by first | assumption | exact b01_r | exact bz_r | omega | (constructor <;> omega) | exact hM _ | exact hPo _ | exact hTa _ | exact hRo _) (fun c_201 => ?_) (fun c_201 => ?_)
      · try simp only [b01_0, bz_0, Classical.not_not] at c_201
        exact absurd c_201 ho
      · try simp only [b01_0, bz_0, Classical.not_not] at c_201
        refine r_iload (pc := 204) dX11_does_204 rfl ?_
        refine rj_if_ge (pc := 206) (tgt := 214) dX11_does_206 (by decide) (by first | assumption | exact b01_r | exact bz_r | omega | (constructor <;> omega) | exact hM _ | exact hPo _ | exact hTa _ | exact hRo _) (fun c_206 => ?_) (fun c_206 => ?_)
        · refine rj_bipush (pc := 214) dX11_does_214 (by decide +kernel) ?_
          refine r_ireturn (pc := 216) .int dX11_does_216 rfl (by first | rfl | assumption) ?_
          exact ⟨rfl, rfl⟩
        · exfalso; omega
  rw [if_neg e_6_109] at ho_6
  by_cases e_6_120 : (120 : Int) = pool p
  · rw [if_pos e_6_120] at ho_6
    obtain rfl : tgt_6 = 120 := by omega
    exfalso; omega
  rw [if_neg e_6_120] at ho_6
  obtain rfl : tgt_6 = 336 := by omega
  exfalso; omega
set_option maxHeartbeats 4000000 in
set_option maxRecDepth 100000 in
theorem d_moveY {G : mG} {l : Launch} (d : Nat) {h : mH} {x s : Nat} {f4 f6 f8 f9 f10 f11 f12 f13 f14 f16 f18 : Int} {m kp was pool tape pln pap rwd rw : Nat → Int}(hB : isM h x (mFs x f4 f6 f8 f9 f10 f11 f12 f13 f14 f16 f18 s) m kp was pool tape pln pap rwd rw) {p : Nat} (hp : p + 40 ≤ 12342) (hPo : ∀ q, InR (pool q)) (hok : mOk m) {s2 : Int} (hs : InR s2) (hk : pool p = 109) {N : Nat} (hN : m 1 = (N : Int)) {e : Nat} (he : neL pool 7 (p + 1) = e) {n : Nat} (hn : n ≤ 20) (hst : stopsBy pool n (if pool (e + 1) = 45 then e + 1 + 1 else e + 1)) (hnr : InR (numAt pool n (e + 1))) (ht : 0 ≤ (hbL m pool (p + 1) e N 0)) (ho : openP m (numAt pool n (e + 1))) : RUNM G l (d + 5) mX11_does [.ref x, .int (J (p : Int)), .int (J s2)] h (fun v h' => v = some (.int (J 0)) ∧ isM h' x (mFs x f4 f6 f8 f9 f10 f11 f12 f13 f14 f16 f18 s) (movesM m (hbL m pool (p + 1) e N 0).toNat (numAt pool n (e + 1))) kp was pool tape pln pap rwd rw ∧ Same (mBlk x) h h') := by
  obtain ⟨hM, k0, k1, k2, k3, k4, k5, k7⟩ := hok
  have hB0 := hB
  dsimp only [mFs] at hB
  have rp := hPo p
  have ge := neL_ge (pool := pool) 7 (p + 1)
  rw [he] at ge
  have hr := hbL_r (m := m) (rc := pool) (fr := p + 1) (to := e) N 0
  have hlt := hbL_lt (m := m) (rc := pool) (fr := p + 1) (to := e) N 0 ht
  refine RUNM.of (by decide +kernel) (Nat.le_of_ble_eq_true rfl) ?_
  refine r_aload_n (pc := 0) dX11_does_0 rfl (by first | rfl | exact isRefV_rf _) ?_
  refine rm_getf (pc := 1) dX11_does_1 fX11_21 (by assumption) rfl ?_
  refine r_iload_n (pc := 4) dX11_does_4 rfl ?_
  refine rj_iald (pc := 5) (j := p) dX11_does_5 (by first | exact isM.g0 (by assumption) | exact isM.g3 (by assumption) | exact isM.g4 (by assumption) | exact isM.g8 (by assumption) | exact isM.g7 (by assumption) | exact isM.g6 (by assumption) | exact isM.g5 (by assumption) | exact isM.g1 (by assumption) | exact isM.g2 (by assumption)) (by first | assumption | exact b01_r | exact bz_r | omega | (constructor <;> omega) | exact hM _ | exact hPo _ | exact hTa _ | exact hRo _) (by first | assumption | exact b01_r | exact bz_r | omega | (constructor <;> omega) | exact hM _ | exact hPo _ | exact hTa _ | exact hRo _) (by first | assumption | exact b01_r | exact bz_r | omega | (constructor <;> omega) | exact hM _ | exact hPo _ | exact hTa _ | exact hRo _) (by omega) ?_
  refine rj_lsw (pc := 6) dX11_does_6 rfl (by first | assumption | exact b01_r | exact bz_r | omega | (constructor <;> omega) | exact hM _ | exact hPo _ | exact hTa _ | exact hRo _) (lsw_pos _ (by decide +kernel) (by decide +kernel)) (fun off_6 tgt_6 ho_6 ht_6 => ?_)
  simp only [Op.lookupswitch.offset_cons, Op.lookupswitch.offset_nil] at ho_6
  by_cases e_6_33 : (33 : Int) = pool p
  · rw [if_pos e_6_33] at ho_6
    obtain rfl : tgt_6 = 103 := by omega
    exfalso; omega
  rw [if_neg e_6_33] at ho_6
  by_cases e_6_43 : (43 : Int) = pool p
  · rw [if_pos e_6_43] at ho_6
    obtain rfl : tgt_6 = 72 := by omega
    exfalso; omega
  rw [if_neg e_6_43] at ho_6
  by_cases e_6_63 : (63 : Int) = pool p
  · rw [if_pos e_6_63] at ho_6
    obtain rfl : tgt_6 = 273 := by omega
    exfalso; omega
  rw [if_neg e_6_63] at ho_6
  by_cases e_6_97 : (97 : Int) = pool p
  · rw [if_pos e_6_97] at ho_6
    obtain rfl : tgt_6 = 111 := by omega
    exfalso; omega
  rw [if_neg e_6_97] at ho_6
  by_cases e_6_107 : (107 : Int) = pool p
  · rw [if_pos e_6_107] at ho_6
    obtain rfl : tgt_6 = 227 := by omega
    exfalso; omega
  rw [if_neg e_6_107] at ho_6
  by_cases e_6_109 : (109 : Int) = pool p
  · rw [if_pos e_6_109] at ho_6
    obtain rfl : tgt_6 = 159 := by omega
    refine r_aload_n (pc := 159) dX11_does_159 rfl (by first | rfl | exact isRefV_rf _) ?_
    refine r_iload_n (pc := 160) dX11_does_160 rfl ?_
    refine rj_iconst (pc := 161) dX11_does_161 ?_
    refine rj_iadd (pc := 162) dX11_does_162 ?_
    refine r_callV1 (pc := 163) dX11_does_163 qX11_nameEnd kX11_160 vX11_nameEnd (by exact isM.gx (by assumption)) rfl rfl (Nat.le_of_ble_eq_true rfl) (by have y := m_nameEnd (G := G) (l := l) (d + 3) hB0 hPo (p := p + 1) (by omega); rw [he, show ((p + 1 : Nat) : Int) = (p : Int) + 1 by omega] at y; exact y) (fun v_163 h_163 q_163 => ?_)
    obtain ⟨rfl, rfl⟩ := q_163
    refine r_istore_n (pc := 166) dX11_does_166 (Nat.le_of_ble_eq_true rfl) ?_
    dsimp only [lsSt, List.set, mLs, mEnt]
    refine r_aload_n (pc := 167) dX11_does_167 rfl (by first | rfl | exact isRefV_rf _) ?_
    refine r_aload_n (pc := 168) dX11_does_168 rfl (by first | rfl | exact isRefV_rf _) ?_
    refine rm_getf (pc := 169) dX11_does_169 fX11_21 (by assumption) rfl ?_
    refine r_iload_n (pc := 172) dX11_does_172 rfl ?_
    refine rj_iconst (pc := 173) dX11_does_173 ?_
    refine rj_iadd (pc := 174) dX11_does_174 ?_
    refine r_iload_n (pc := 175) dX11_does_175 rfl ?_
    refine r_callV3 (pc := 176) dX11_does_176 qX11_heldBy kX11_163 vX11_heldBy (by exact isM.gx (by assumption)) rfl rfl (Nat.le_of_ble_eq_true rfl) (by have y := m_heldBy (G := G) (l := l) (d + 1) hB0 hM (rs := 3) (rc := pool) (fr := p + 1) (to := e) (Or.inr ⟨rfl, rfl, by omega⟩) (by omega) hPo hN (by omega) (fun t ht => k7 t (by omega)); rw [show ((p + 1 : Nat) : Int) = (p : Int) + 1 by omega] at y; exact y) (fun v_176 h_176 q_176 => ?_)
    obtain ⟨rfl, rfl⟩ := q_176
    refine r_istore (pc := 179) dX11_does_179 (Nat.le_of_ble_eq_true rfl) ?_
    dsimp only [lsSt, List.set, mLs, mEnt]
    refine r_aload_n (pc := 181) dX11_does_181 rfl (by first | rfl | exact isRefV_rf _) ?_
    refine r_iload_n (pc := 182) dX11_does_182 rfl ?_
    refine rj_iconst (pc := 183) dX11_does_183 ?_
    refine rj_iadd (pc := 184) dX11_does_184 ?_
    refine r_callV1 (pc := 185) dX11_does_185 qX11_numberAt kX11_171 vX11_numberAt (by exact isM.gx (by assumption)) rfl rfl (Nat.le_of_ble_eq_true rfl) (by have y := m_numberAt (G := G) (l := l) (d + 3) hB0 hPo (p := e + 1) (n := n) (by omega) hst; rw [show ((e + 1 : Nat) : Int) = (e : Int) + 1 by omega] at y; exact y) (fun v_185 h_185 q_185 => ?_)
    obtain ⟨rfl, rfl⟩ := q_185
    refine r_istore (pc := 188) dX11_does_188 (Nat.le_of_ble_eq_true rfl) ?_
    dsimp only [lsSt, List.set, mLs, mEnt]
    refine r_iload (pc := 190) dX11_does_190 rfl ?_
    refine rj_if_lt (pc := 192) (tgt := 204) dX11_does_192 (by decide) (by first | assumption | exact b01_r | exact bz_r | omega | (constructor <;> omega) | exact hM _ | exact hPo _ | exact hTa _ | exact hRo _) (fun c_192 => ?_) (fun c_192 => ?_)
    · exfalso; omega
    · refine r_aload_n (pc := 195) dX11_does_195 rfl (by first | rfl | exact isRefV_rf _) ?_
      refine r_iload (pc := 196) dX11_does_196 rfl ?_
      refine r_callV1 (pc := 198) dX11_does_198 qX11_isOpen kX11_146 vX11_isOpen (by exact isM.gx (by assumption)) rfl rfl (Nat.le_of_ble_eq_true rfl) (m_isOpen _ hB0 hM k0 hnr) (fun v_198 h_198 q_198 => ?_)
      obtain ⟨rfl, rfl⟩ := q_198
      refine rj_if_ne (pc := 201) (tgt := 217) dX11_does_201 (by decide) (by first | assumption | exact b01_r | exact bz_r | omega | (constructor <;> omega) | exact hM _ | exact hPo _ | exact hTa _ | exact hRo _) (fun c_201 => ?_) (fun c_201 => ?_)
      · try simp only [b01_0, bz_0, Classical.not_not] at c_201
        refine r_aload_n (pc := 217) dX11_does_217 rfl (by first | rfl | exact isRefV_rf _) ?_
        refine r_iload (pc := 218) dX11_does_218 rfl ?_
        refine r_iload (pc := 220) dX11_does_220 rfl ?_
        refine r_callV2 (pc := 222) dX11_does_222 qX11_moves kX11_177 vX11_moves (by exact isM.gx (by assumption)) rfl rfl (Nat.le_of_ble_eq_true rfl) (by have y := m_moves (G := G) (l := l) (d + 3) hB0 (t := (hbL m pool (p + 1) e N 0).toNat) (by omega) (b := (numAt pool n (e + 1))); rw [show (((hbL m pool (p + 1) e N 0).toNat : Nat) : Int) = (hbL m pool (p + 1) e N 0) by omega] at y; exact y) (fun v_222 h_222 q_222 => ?_)
        obtain ⟨rfl, hB_222, S_222⟩ := q_222
        refine rj_iconst (pc := 225) dX11_does_225 ?_
        refine r_ireturn (pc := 226) .int dX11_does_226 rfl (by first | rfl | assumption) ?_
        exact ⟨rfl, hB_222, S_222⟩
      · try simp only [b01_0, bz_0, Classical.not_not] at c_201
        exact absurd ho c_201
  rw [if_neg e_6_109] at ho_6
  by_cases e_6_120 : (120 : Int) = pool p
  · rw [if_pos e_6_120] at ho_6
    obtain rfl : tgt_6 = 120 := by omega
    exfalso; omega
  rw [if_neg e_6_120] at ho_6
  obtain rfl : tgt_6 = 336 := by omega
  exfalso; omega
set_option maxHeartbeats 4000000 in
set_option maxRecDepth 100000 in
theorem L_colon {G : mG} {l : Launch} {D : Nat} {h : mH} {x s : Nat} {f4 f6 f8 f9 f10 f11 f12 f13 f14 f16 f18 : Int} {m kp was pool tape pln pap rwd rw : Nat → Int}(hB : isM h x (mFs x f4 f6 f8 f9 f10 f11 f12 f13 f14 f16 f18 s) m kp was pool tape pln pap rwd rw) {p k : Nat} {s2 : Int} (hPo : ∀ q, InR (pool q)) (hk4 : k ≤ 12341) (hcol : pool k = 58) (lo : Nat) (hnc : ∀ j, lo ≤ j → j < k → ¬ pool j = 58) {Q : Option Value → mH → Prop} (K : RUN G l D mX11_does 294 [some (.ref x), some (.int (J (p : Int))), some (.int (J s2)), some (.int (J (k : Int))), none, none] [] h Q) : ∀ i j : Nat, j + i = k → lo ≤ j → RUN G l D mX11_does 277 [some (.ref x), some (.int (J (p : Int))), some (.int (J s2)), some (.int (J (j : Int))), none, none] [] h Q := by
  dsimp only [mFs] at hB
  intro i
  induction i with
  | zero =>
    intro j hj hl
    obtain rfl : j = k := by omega
    have rp := hPo j
    refine r_aload_n (pc := 277) dX11_does_277 rfl (by first | rfl | exact isRefV_rf _) ?_
    refine rm_getf (pc := 278) dX11_does_278 fX11_21 (by assumption) rfl ?_
    refine r_iload_n (pc := 281) dX11_does_281 rfl ?_
    refine rj_iald (pc := 282) (j := j) dX11_does_282 (by first | exact isM.g0 (by assumption) | exact isM.g3 (by assumption) | exact isM.g4 (by assumption) | exact isM.g8 (by assumption) | exact isM.g7 (by assumption) | exact isM.g6 (by assumption) | exact isM.g5 (by assumption) | exact isM.g1 (by assumption) | exact isM.g2 (by assumption)) (by first | assumption | exact b01_r | exact bz_r | omega | (constructor <;> omega) | exact hM _ | exact hPo _ | exact hTa _ | exact hRo _) (by first | assumption | exact b01_r | exact bz_r | omega | (constructor <;> omega) | exact hM _ | exact hPo _ | exact hTa _ | exact hRo _) (by first | assumption | exact b01_r | exact bz_r | omega | (constructor <;> omega) | exact hM _ | exact hPo _ | exact hTa _ | exact hRo _) (by omega) ?_
    refine rj_bipush (pc := 283) dX11_does_283 (by decide +kernel) ?_
    refine rj_icmp_eq (pc := 285) (tgt := 294) dX11_does_285 (by decide) (by first | assumption | exact b01_r | exact bz_r | omega | (constructor <;> omega) | exact hM _ | exact hPo _ | exact hTa _ | exact hRo _) (by first | assumption | exact b01_r | exact bz_r | omega | (constructor <;> omega) | exact hM _ | exact hPo _ | exact hTa _ | exact hRo _) (fun c_285 => ?_) (fun c_285 => ?_)
    · exact K
    · exfalso; omega
  | succ i ih =>
    intro j hj hl
    have rp := hPo j
    refine r_aload_n (pc := 277) dX11_does_277 rfl (by first | rfl | exact isRefV_rf _) ?_
    refine rm_getf (pc := 278) dX11_does_278 fX11_21 (by assumption) rfl ?_
    refine r_iload_n (pc := 281) dX11_does_281 rfl ?_
    refine rj_iald (pc := 282) (j := j) dX11_does_282 (by first | exact isM.g0 (by assumption) | exact isM.g3 (by assumption) | exact isM.g4 (by assumption) | exact isM.g8 (by assumption) | exact isM.g7 (by assumption) | exact isM.g6 (by assumption) | exact isM.g5 (by assumption) | exact isM.g1 (by assumption) | exact isM.g2 (by assumption)) (by first | assumption | exact b01_r | exact bz_r | omega | (constructor <;> omega) | exact hM _ | exact hPo _ | exact hTa _ | exact hRo _) (by first | assumption | exact b01_r | exact bz_r | omega | (constructor <;> omega) | exact hM _ | exact hPo _ | exact hTa _ | exact hRo _) (by first | assumption | exact b01_r | exact bz_r | omega | (constructor <;> omega) | exact hM _ | exact hPo _ | exact hTa _ | exact hRo _) (by omega) ?_
    refine rj_bipush (pc := 283) dX11_does_283 (by decide +kernel) ?_
    refine rj_icmp_eq (pc := 285) (tgt := 294) dX11_does_285 (by decide) (by first | assumption | exact b01_r | exact bz_r | omega | (constructor <;> omega) | exact hM _ | exact hPo _ | exact hTa _ | exact hRo _) (by first | assumption | exact b01_r | exact bz_r | omega | (constructor <;> omega) | exact hM _ | exact hPo _ | exact hTa _ | exact hRo _) (fun c_285 => ?_) (fun c_285 => ?_)
    · exact absurd c_285 (hnc j hl (by omega))
    · refine rj_iinc (pc := 288) dX11_does_288 (Nat.le_of_ble_eq_true rfl) rfl ?_
      dsimp only [lsSt, List.set, mLs, mEnt]
      refine r_goto (pc := 291) (tgt := 277) dX11_does_291 (by decide) ?_
      exact ih (j + 1) (by omega) (by omega)
set_option maxHeartbeats 4000000 in
set_option maxRecDepth 100000 in
theorem d_ifN {G : mG} {l : Launch} (d : Nat) {h : mH} {x s : Nat} {f4 f6 f8 f9 f10 f11 f12 f13 f14 f16 f18 : Int} {m kp was pool tape pln pap rwd rw : Nat → Int}(hB : isM h x (mFs x f4 f6 f8 f9 f10 f11 f12 f13 f14 f16 f18 s) m kp was pool tape pln pap rwd rw) {p : Nat} (hp : p + 40 ≤ 12342) (hPo : ∀ q, InR (pool q)) (hok : mOk m) {s2 : Int} (hs : InR s2) (hk : pool p = 63) (hc : 48 ≤ pool (p + 1) ∧ pool (p + 1) ≤ 55) {n : Nat} (hn : n ≤ 20) (hst : stopsBy pool n (if pool (p + 3) = 45 then p + 3 + 1 else p + 3)) {k : Nat} (hk3 : p + 3 ≤ k) (hk4 : k ≤ p + 30) (hcol : pool k = 58) (hnc : ∀ j, p + 3 ≤ j → j < k → ¬ pool j = 58) (hcd : ¬ m (10 + pool (p + 1) - 48).toNat < numAt pool n (p + 3)) (hnr : InR (numAt pool n (p + 3))) : RUNM G l (d + 2) mX11_does [.ref x, .int (J (p : Int)), .int (J s2)] h (fun v h' => v = some (.int (J 0)) ∧ h' = h) := by
  obtain ⟨hM, k0, k1, k2, k3, k4, k5, k7⟩ := hok
  have hB0 := hB
  dsimp only [mFs] at hB
  have rp := hPo p
  have rc := hPo (p + 1)
  refine RUNM.of (by decide +kernel) (Nat.le_of_ble_eq_true rfl) ?_
  refine r_aload_n (pc := 0) dX11_does_0 rfl (by first | rfl | exact isRefV_rf _) ?_
  refine rm_getf (pc := 1) dX11_does_1 fX11_21 (by assumption) rfl ?_
  refine r_iload_n (pc := 4) dX11_does_4 rfl ?_
  refine rj_iald (pc := 5) (j := p) dX11_does_5 (by first | exact isM.g0 (by assumption) | exact isM.g3 (by assumption) | exact isM.g4 (by assumption) | exact isM.g8 (by assumption) | exact isM.g7 (by assumption) | exact isM.g6 (by assumption) | exact isM.g5 (by assumption) | exact isM.g1 (by assumption) | exact isM.g2 (by assumption)) (by first | assumption | exact b01_r | exact bz_r | omega | (constructor <;> omega) | exact hM _ | exact hPo _ | exact hTa _ | exact hRo _) (by first | assumption | exact b01_r | exact bz_r | omega | (constructor <;> omega) | exact hM _ | exact hPo _ | exact hTa _ | exact hRo _) (by first | assumption | exact b01_r | exact bz_r | omega | (constructor <;> omega) | exact hM _ | exact hPo _ | exact hTa _ | exact hRo _) (by omega) ?_
  refine rj_lsw (pc := 6) dX11_does_6 rfl (by first | assumption | exact b01_r | exact bz_r | omega | (constructor <;> omega) | exact hM _ | exact hPo _ | exact hTa _ | exact hRo _) (lsw_pos _ (by decide +kernel) (by decide +kernel)) (fun off_6 tgt_6 ho_6 ht_6 => ?_)
  simp only [Op.lookupswitch.offset_cons, Op.lookupswitch.offset_nil] at ho_6
  by_cases e_6_33 : (33 : Int) = pool p
  · rw [if_pos e_6_33] at ho_6
    obtain rfl : tgt_6 = 103 := by omega
    exfalso; omega
  rw [if_neg e_6_33] at ho_6
  by_cases e_6_43 : (43 : Int) = pool p
  · rw [if_pos e_6_43] at ho_6
    obtain rfl : tgt_6 = 72 := by omega
    exfalso; omega
  rw [if_neg e_6_43] at ho_6
  by_cases e_6_63 : (63 : Int) = pool p
  · rw [if_pos e_6_63] at ho_6
    obtain rfl : tgt_6 = 273 := by omega
    refine r_iload_n (pc := 273) dX11_does_273 rfl ?_
    refine rj_iconst (pc := 274) dX11_does_274 ?_
    refine rj_iadd (pc := 275) dX11_does_275 ?_
    refine r_istore_n (pc := 276) dX11_does_276 (Nat.le_of_ble_eq_true rfl) ?_
    dsimp only [lsSt, List.set, mLs, mEnt]
    have st : ((p + 3 : Nat) : Int) = (p : Int) + 3 := by omega
    rw [← st]
    refine L_colon hB0 hPo (by omega) hcol (p + 3) hnc ?_ (k - (p + 3)) (p + 3) (by omega) (Nat.le_refl _)
    refine r_aload_n (pc := 294) dX11_does_294 rfl (by first | rfl | exact isRefV_rf _) ?_
    refine rm_getf (pc := 295) dX11_does_295 fX11_11 (by assumption) rfl ?_
    refine rj_bipush (pc := 298) dX11_does_298 (by decide +kernel) ?_
    refine r_aload_n (pc := 300) dX11_does_300 rfl (by first | rfl | exact isRefV_rf _) ?_
    refine rm_getf (pc := 301) dX11_does_301 fX11_21 (by assumption) rfl ?_
    refine r_iload_n (pc := 304) dX11_does_304 rfl ?_
    refine rj_iconst (pc := 305) dX11_does_305 ?_
    refine rj_iadd (pc := 306) dX11_does_306 ?_
    refine rj_iald (pc := 307) (j := p + 1) dX11_does_307 (by first | exact isM.g0 (by assumption) | exact isM.g3 (by assumption) | exact isM.g4 (by assumption) | exact isM.g8 (by assumption) | exact isM.g7 (by assumption) | exact isM.g6 (by assumption) | exact isM.g5 (by assumption) | exact isM.g1 (by assumption) | exact isM.g2 (by assumption)) (by first | assumption | exact b01_r | exact bz_r | omega | (constructor <;> omega) | exact hM _ | exact hPo _ | exact hTa _ | exact hRo _) (by first | assumption | exact b01_r | exact bz_r | omega | (constructor <;> omega) | exact hM _ | exact hPo _ | exact hTa _ | exact hRo _) (by first | assumption | exact b01_r | exact bz_r | omega | (constructor <;> omega) | exact hM _ | exact hPo _ | exact hTa _ | exact hRo _) (by omega) ?_
    refine rj_iadd (pc := 308) dX11_does_308 ?_
    refine rj_bipush (pc := 309) dX11_does_309 (by decide +kernel) ?_
    refine rj_isub (pc := 311) dX11_does_311 ?_
    refine rj_iald (pc := 312) (j := (10 + pool (p + 1) - 48).toNat) dX11_does_312 (by first | exact isM.g0 (by assumption) | exact isM.g3 (by assumption) | exact isM.g4 (by assumption) | exact isM.g8 (by assumption) | exact isM.g7 (by assumption) | exact isM.g6 (by assumption) | exact isM.g5 (by assumption) | exact isM.g1 (by assumption) | exact isM.g2 (by assumption)) (by first | assumption | exact b01_r | exact bz_r | omega | (constructor <;> omega) | exact hM _ | exact hPo _ | exact hTa _ | exact hRo _) (by first | assumption | exact b01_r | exact bz_r | omega | (constructor <;> omega) | exact hM _ | exact hPo _ | exact hTa _ | exact hRo _) (by first | assumption | exact b01_r | exact bz_r | omega | (constructor <;> omega) | exact hM _ | exact hPo _ | exact hTa _ | exact hRo _) (by omega) ?_
    refine r_aload_n (pc := 313) dX11_does_313 rfl (by first | rfl | exact isRefV_rf _) ?_
    refine r_iload_n (pc := 314) dX11_does_314 rfl ?_
    refine rj_iconst (pc := 315) dX11_does_315 ?_
    refine rj_iadd (pc := 316) dX11_does_316 ?_
    refine r_callV1 (pc := 317) dX11_does_317 qX11_numberAt kX11_171 vX11_numberAt (by exact isM.gx (by assumption)) rfl rfl (Nat.le_of_ble_eq_true rfl) (by have y := m_numberAt (G := G) (l := l) d hB0 hPo (p := p + 3) (n := n) (by omega) hst; rw [show ((p + 3 : Nat) : Int) = (p : Int) + 3 by omega] at y; exact y) (fun v_317 h_317 q_317 => ?_)
    obtain ⟨rfl, rfl⟩ := q_317
    refine rj_icmp_ge (pc := 320) (tgt := 334) dX11_does_320 (by decide) (by first | assumption | exact b01_r | exact bz_r | omega | (constructor <;> omega) | exact hM _ | exact hPo _ | exact hTa _ | exact hRo _) (by first | assumption | exact b01_r | exact bz_r | omega | (constructor <;> omega) | exact hM _ | exact hPo _ | exact hTa _ | exact hRo _) (fun c_320 => ?_) (fun c_320 => ?_)
    · refine rj_iconst (pc := 334) dX11_does_334 ?_
      refine r_ireturn (pc := 335) .int dX11_does_335 rfl (by first | rfl | assumption) ?_
      exact ⟨rfl, rfl⟩
    · exfalso; omega
  rw [if_neg e_6_63] at ho_6
  by_cases e_6_97 : (97 : Int) = pool p
  · rw [if_pos e_6_97] at ho_6
    obtain rfl : tgt_6 = 111 := by omega
    exfalso; omega
  rw [if_neg e_6_97] at ho_6
  by_cases e_6_107 : (107 : Int) = pool p
  · rw [if_pos e_6_107] at ho_6
    obtain rfl : tgt_6 = 227 := by omega
    exfalso; omega
  rw [if_neg e_6_107] at ho_6
  by_cases e_6_109 : (109 : Int) = pool p
  · rw [if_pos e_6_109] at ho_6
    obtain rfl : tgt_6 = 159 := by omega
    exfalso; omega
  rw [if_neg e_6_109] at ho_6
  by_cases e_6_120 : (120 : Int) = pool p
  · rw [if_pos e_6_120] at ho_6
    obtain rfl : tgt_6 = 120 := by omega
    exfalso; omega
  rw [if_neg e_6_120] at ho_6
  obtain rfl : tgt_6 = 336 := by omega
  exfalso; omega
set_option maxHeartbeats 4000000 in
set_option maxRecDepth 100000 in
theorem d_ifY {G : mG} {l : Launch} (d : Nat) {h : mH} {x s : Nat} {f4 f6 f8 f9 f10 f11 f12 f13 f14 f16 f18 : Int} {m kp was pool tape pln pap rwd rw : Nat → Int}(hB : isM h x (mFs x f4 f6 f8 f9 f10 f11 f12 f13 f14 f16 f18 s) m kp was pool tape pln pap rwd rw) {p : Nat} (hp : p + 40 ≤ 12342) (hPo : ∀ q, InR (pool q)) (hok : mOk m) {s2 : Int} (hs : InR s2) (hk : pool p = 63) (hc : 48 ≤ pool (p + 1) ∧ pool (p + 1) ≤ 55) {n : Nat} (hn : n ≤ 20) (hst : stopsBy pool n (if pool (p + 3) = 45 then p + 3 + 1 else p + 3)) {k : Nat} (hk3 : p + 3 ≤ k) (hk4 : k ≤ p + 30) (hcol : pool k = 58) (hnc : ∀ j, p + 3 ≤ j → j < k → ¬ pool j = 58) (hcd : m (10 + pool (p + 1) - 48).toNat < numAt pool n (p + 3)) (hnr : InR (numAt pool n (p + 3))) {Q : Option Value → mH → Prop} {E : Nat} (hE : d + 1 ≤ E) (hin : RUNM G l E mX11_does [.ref x, .int (J ((k : Int) + 1)), .int (J s2)] h (fun v h' => (∃ f, v = some (.int (J f))) ∧ Q v h')) : RUNM G l (E + 1) mX11_does [.ref x, .int (J (p : Int)), .int (J s2)] h (fun v h' => Q v h') := by
  obtain ⟨hM, k0, k1, k2, k3, k4, k5, k7⟩ := hok
  have hB0 := hB
  dsimp only [mFs] at hB
  have rp := hPo p
  have rc := hPo (p + 1)
  refine RUNM.of (by decide +kernel) (Nat.le_of_ble_eq_true rfl) ?_
  refine r_aload_n (pc := 0) dX11_does_0 rfl (by first | rfl | exact isRefV_rf _) ?_
  refine rm_getf (pc := 1) dX11_does_1 fX11_21 (by assumption) rfl ?_
  refine r_iload_n (pc := 4) dX11_does_4 rfl ?_
  refine rj_iald (pc := 5) (j := p) dX11_does_5 (by first | exact isM.g0 (by assumption) | exact isM.g3 (by assumption) | exact isM.g4 (by assumption) | exact isM.g8 (by assumption) | exact isM.g7 (by assumption) | exact isM.g6 (by assumption) | exact isM.g5 (by assumption) | exact isM.g1 (by assumption) | exact isM.g2 (by assumption)) (by first | assumption | exact b01_r | exact bz_r | omega | (constructor <;> omega) | exact hM _ | exact hPo _ | exact hTa _ | exact hRo _) (by first | assumption | exact b01_r | exact bz_r | omega | (constructor <;> omega) | exact hM _ | exact hPo _ | exact hTa _ | exact hRo _) (by first | assumption | exact b01_r | exact bz_r | omega | (constructor <;> omega) | exact hM _ | exact hPo _ | exact hTa _ | exact hRo _) (by omega) ?_
  refine rj_lsw (pc := 6) dX11_does_6 rfl (by first | assumption | exact b01_r | exact bz_r | omega | (constructor <;> omega) | exact hM _ | exact hPo _ | exact hTa _ | exact hRo _) (lsw_pos _ (by decide +kernel) (by decide +kernel)) (fun off_6 tgt_6 ho_6 ht_6 => ?_)
  simp only [Op.lookupswitch.offset_cons, Op.lookupswitch.offset_nil] at ho_6
  by_cases e_6_33 : (33 : Int) = pool p
  · rw [if_pos e_6_33] at ho_6
    obtain rfl : tgt_6 = 103 := by omega
    exfalso; omega
  rw [if_neg e_6_33] at ho_6
  by_cases e_6_43 : (43 : Int) = pool p
  · rw [if_pos e_6_43] at ho_6
    obtain rfl : tgt_6 = 72 := by omega
    exfalso; omega
  rw [if_neg e_6_43] at ho_6
  by_cases e_6_63 : (63 : Int) = pool p
  · rw [if_pos e_6_63] at ho_6
    obtain rfl : tgt_6 = 273 := by omega
    refine r_iload_n (pc := 273) dX11_does_273 rfl ?_
    refine rj_iconst (pc := 274) dX11_does_274 ?_
    refine rj_iadd (pc := 275) dX11_does_275 ?_
    refine r_istore_n (pc := 276) dX11_does_276 (Nat.le_of_ble_eq_true rfl) ?_
    dsimp only [lsSt, List.set, mLs, mEnt]
    have st : ((p + 3 : Nat) : Int) = (p : Int) + 3 := by omega
    rw [← st]
    refine L_colon hB0 hPo (by omega) hcol (p + 3) hnc ?_ (k - (p + 3)) (p + 3) (by omega) (Nat.le_refl _)
    refine r_aload_n (pc := 294) dX11_does_294 rfl (by first | rfl | exact isRefV_rf _) ?_
    refine rm_getf (pc := 295) dX11_does_295 fX11_11 (by assumption) rfl ?_
    refine rj_bipush (pc := 298) dX11_does_298 (by decide +kernel) ?_
    refine r_aload_n (pc := 300) dX11_does_300 rfl (by first | rfl | exact isRefV_rf _) ?_
    refine rm_getf (pc := 301) dX11_does_301 fX11_21 (by assumption) rfl ?_
    refine r_iload_n (pc := 304) dX11_does_304 rfl ?_
    refine rj_iconst (pc := 305) dX11_does_305 ?_
    refine rj_iadd (pc := 306) dX11_does_306 ?_
    refine rj_iald (pc := 307) (j := p + 1) dX11_does_307 (by first | exact isM.g0 (by assumption) | exact isM.g3 (by assumption) | exact isM.g4 (by assumption) | exact isM.g8 (by assumption) | exact isM.g7 (by assumption) | exact isM.g6 (by assumption) | exact isM.g5 (by assumption) | exact isM.g1 (by assumption) | exact isM.g2 (by assumption)) (by first | assumption | exact b01_r | exact bz_r | omega | (constructor <;> omega) | exact hM _ | exact hPo _ | exact hTa _ | exact hRo _) (by first | assumption | exact b01_r | exact bz_r | omega | (constructor <;> omega) | exact hM _ | exact hPo _ | exact hTa _ | exact hRo _) (by first | assumption | exact b01_r | exact bz_r | omega | (constructor <;> omega) | exact hM _ | exact hPo _ | exact hTa _ | exact hRo _) (by omega) ?_
    refine rj_iadd (pc := 308) dX11_does_308 ?_
    refine rj_bipush (pc := 309) dX11_does_309 (by decide +kernel) ?_
    refine rj_isub (pc := 311) dX11_does_311 ?_
    refine rj_iald (pc := 312) (j := (10 + pool (p + 1) - 48).toNat) dX11_does_312 (by first | exact isM.g0 (by assumption) | exact isM.g3 (by assumption) | exact isM.g4 (by assumption) | exact isM.g8 (by assumption) | exact isM.g7 (by assumption) | exact isM.g6 (by assumption) | exact isM.g5 (by assumption) | exact isM.g1 (by assumption) | exact isM.g2 (by assumption)) (by first | assumption | exact b01_r | exact bz_r | omega | (constructor <;> omega) | exact hM _ | exact hPo _ | exact hTa _ | exact hRo _) (by first | assumption | exact b01_r | exact bz_r | omega | (constructor <;> omega) | exact hM _ | exact hPo _ | exact hTa _ | exact hRo _) (by first | assumption | exact b01_r | exact bz_r | omega | (constructor <;> omega) | exact hM _ | exact hPo _ | exact hTa _ | exact hRo _) (by omega) ?_
    refine r_aload_n (pc := 313) dX11_does_313 rfl (by first | rfl | exact isRefV_rf _) ?_
    refine r_iload_n (pc := 314) dX11_does_314 rfl ?_
    refine rj_iconst (pc := 315) dX11_does_315 ?_
    refine rj_iadd (pc := 316) dX11_does_316 ?_
    refine r_callV1 (pc := 317) dX11_does_317 qX11_numberAt kX11_171 vX11_numberAt (by exact isM.gx (by assumption)) rfl rfl (Nat.le_of_ble_eq_true rfl) (by have y := m_numberAt (G := G) (l := l) d hB0 hPo (p := p + 3) (n := n) (by omega) hst; rw [show ((p + 3 : Nat) : Int) = (p : Int) + 3 by omega] at y; exact y.deeper (by omega)) (fun v_317 h_317 q_317 => ?_)
    obtain ⟨rfl, rfl⟩ := q_317
    refine rj_icmp_ge (pc := 320) (tgt := 334) dX11_does_320 (by decide) (by first | assumption | exact b01_r | exact bz_r | omega | (constructor <;> omega) | exact hM _ | exact hPo _ | exact hTa _ | exact hRo _) (by first | assumption | exact b01_r | exact bz_r | omega | (constructor <;> omega) | exact hM _ | exact hPo _ | exact hTa _ | exact hRo _) (fun c_320 => ?_) (fun c_320 => ?_)
    · exfalso; omega
    · refine r_aload_n (pc := 323) dX11_does_323 rfl (by first | rfl | exact isRefV_rf _) ?_
      refine r_iload_n (pc := 324) dX11_does_324 rfl ?_
      refine rj_iconst (pc := 325) dX11_does_325 ?_
      refine rj_iadd (pc := 326) dX11_does_326 ?_
      refine r_iload_n (pc := 327) dX11_does_327 rfl ?_
      refine r_callV2 (pc := 328) dX11_does_328 qX11_does kX11_136 vX11_does (by exact isM.gx (by assumption)) rfl rfl (Nat.le_of_ble_eq_true rfl) hin (fun v_328 h_328 q_328 => ?_)
      obtain ⟨⟨f, rfl⟩, q_328b⟩ := q_328
      refine r_goto (pc := 331) (tgt := 335) dX11_does_331 (by decide) ?_
      refine r_ireturn (pc := 335) .int dX11_does_335 rfl (by first | rfl | assumption) ?_
      exact q_328b
  rw [if_neg e_6_63] at ho_6
  by_cases e_6_97 : (97 : Int) = pool p
  · rw [if_pos e_6_97] at ho_6
    obtain rfl : tgt_6 = 111 := by omega
    exfalso; omega
  rw [if_neg e_6_97] at ho_6
  by_cases e_6_107 : (107 : Int) = pool p
  · rw [if_pos e_6_107] at ho_6
    obtain rfl : tgt_6 = 227 := by omega
    exfalso; omega
  rw [if_neg e_6_107] at ho_6
  by_cases e_6_109 : (109 : Int) = pool p
  · rw [if_pos e_6_109] at ho_6
    obtain rfl : tgt_6 = 159 := by omega
    exfalso; omega
  rw [if_neg e_6_109] at ho_6
  by_cases e_6_120 : (120 : Int) = pool p
  · rw [if_pos e_6_120] at ho_6
    obtain rfl : tgt_6 = 120 := by omega
    exfalso; omega
  rw [if_neg e_6_120] at ho_6
  obtain rfl : tgt_6 = 336 := by omega
  exfalso; omega

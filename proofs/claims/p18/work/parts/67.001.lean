set_option maxHeartbeats 4000000 in
set_option maxRecDepth 100000 in
theorem d_closeN {G : mG} {l : Launch} (d : Nat) {h : mH} {x s : Nat} {f4 f6 f8 f9 f10 f11 f12 f13 f14 f16 f18 : Int} {m kp was pool tape pln pap rwd rw : Nat → Int}(hB : isM h x (mFs x f4 f6 f8 f9 f10 f11 f12 f13 f14 f16 f18 s) m kp was pool tape pln pap rwd rw) {p : Nat} (hp : p + 40 ≤ 12342) (hPo : ∀ q, InR (pool q)) (hok : mOk m) {s2 : Int} (hs : InR s2) (hk : pool p = 120) {N : Nat} (hN : m 1 = (N : Int)) {e : Nat} (he : neL pool 7 (p + 1) = e) (ht : (hbL m pool (p + 1) e N 0) < 0) : RUNM G l (d + 4) mX11_does [.ref x, .int (J (p : Int)), .int (J s2)] h (fun v h' => v = some (.int (J 104)) ∧ h' = h) := by
  obtain ⟨hM, k0, k1, k2, k3, k4, k5, k7⟩ := hok
  have hB0 := hB
  dsimp only [mFs] at hB
  have rp := hPo p
  have ge := neL_ge (pool := pool) 7 (p + 1)
  rw [he] at ge
  have hr := hbL_r (m := m) (rc := pool) (fr := p + 1) (to := e) N 0
  refine RUNM.of (by decide +kernel) (Nat.le_of_ble_eq_true rfl) ?_
  refine r_aload_n (pc := 0) dX11_does_0 rfl (by first | rfl | exact isRefV_rf _) ?_
  refine rm_getf (pc := 1) dX11_does_1 fX11_21 (by assumption) rfl ?_
  refine r_iload_n (pc := 4) dX11_does_4 rfl ?_
  refine rj_iald (pc := 5) (j := p) dX11_does_5 (by first | exact isM.g0 (by assumption) | exact isM.g3 (by assumption) | exact isM.g4 (by assumption) | exact isM.g8 (by assumption) | exact isM.g7 (by assumption) | exact isM.g6 (by assumption) | exact isM.g5 (by assumption) | exact isM.g1 (by assumption) | exact isM.g2 (by assumption)) (by first | assumption | exact b01_r | exact bz_r | omega | (constructor <;> omega) | exact hM _ | exact hPo _ | exact hTa _ | exact hRo _) (by first | assumption | exact b01_r | exact bz_r | omega | (constructor <;> omega) | exact hM _ | exact hPo _ | exact hTa _ | exact hRo _) (by first | assumption | exact b01_r | exact bz_r | omega | (constructor <;> omega) | exact hM _ | exact hPo _ | exact hTa _ | exact hRo _) (by omega) ?_
  refine rj_lsw (pc := 6) dX11_does_6 rfl (by first | assumption | exact b01_r | exact bz_r | omega | (constructor <;> omega) | exact hM _ | exact hPo _ | exact hTa _ | exact hRo _) (lsw_pos _ (by decide +kernel) (by decide +kernel)) (fun off_6 tgt_6 ho_6 ht_6 => ?_)
  simp only [Op.lookupswitch.offset_cons, Op.lookupswitch.offset_nil] at ho_6
  by_cases e_6_33 : (33 : Int) = pool p
  · rw [if_pos e_6_33] at ho_6
    obtain rfl : tgt_6 = 103 := by omega
    exfalso; omega
  rw [if_neg e_6_33] at ho_6
  by_cases e_6_43 : (43 : Int) = pool p
  · rw [if_pos e_6_43] at ho_6
    obtain rfl : tgt_6 = 72 := by omega
    exfalso; omega
  rw [if_neg e_6_43] at ho_6
  by_cases e_6_63 : (63 : Int) = pool p
  · rw [if_pos e_6_63] at ho_6
    obtain rfl : tgt_6 = 273 := by omega
    exfalso; omega
  rw [if_neg e_6_63] at ho_6
  by_cases e_6_97 : (97 : Int) = pool p
  · rw [if_pos e_6_97] at ho_6
    obtain rfl : tgt_6 = 111 := by omega
    exfalso; omega
  rw [if_neg e_6_97] at ho_6
  by_cases e_6_107 : (107 : Int) = pool p
  · rw [if_pos e_6_107] at ho_6
    obtain rfl : tgt_6 = 227 := by omega
    exfalso; omega
  rw [if_neg e_6_107] at ho_6
  by_cases e_6_109 : (109 : Int) = pool p
  · rw [if_pos e_6_109] at ho_6
    obtain rfl : tgt_6 = 159 := by omega
    exfalso; omega
  rw [if_neg e_6_109] at ho_6
  by_cases e_6_120 : (120 : Int) = pool p
  · rw [if_pos e_6_120] at ho_6
    obtain rfl : tgt_6 = 120 := by omega
    refine r_aload_n (pc := 120) dX11_does_120 rfl (by first | rfl | exact isRefV_rf _) ?_
    refine r_aload_n (pc := 121) dX11_does_121 rfl (by first | rfl | exact isRefV_rf _) ?_
    refine rm_getf (pc := 122) dX11_does_122 fX11_21 (by assumption) rfl ?_
    refine r_iload_n (pc := 125) dX11_does_125 rfl ?_
    refine rj_iconst (pc := 126) dX11_does_126 ?_
    refine rj_iadd (pc := 127) dX11_does_127 ?_
    refine r_aload_n (pc := 128) dX11_does_128 rfl (by first | rfl | exact isRefV_rf _) ?_
    refine r_iload_n (pc := 129) dX11_does_129 rfl ?_
    refine rj_iconst (pc := 130) dX11_does_130 ?_
    refine rj_iadd (pc := 131) dX11_does_131 ?_
    refine r_callV1 (pc := 132) dX11_does_132 qX11_nameEnd kX11_160 vX11_nameEnd (by exact isM.gx (by assumption)) rfl rfl (Nat.le_of_ble_eq_true rfl) (by have y := m_nameEnd (G := G) (l := l) (d + 2) hB0 hPo (p := p + 1) (by omega); rw [he, show ((p + 1 : Nat) : Int) = (p : Int) + 1 by omega] at y; exact y) (fun v_132 h_132 q_132 => ?_)
    obtain ⟨rfl, rfl⟩ := q_132
    refine r_callV3 (pc := 135) dX11_does_135 qX11_heldBy kX11_163 vX11_heldBy (by exact isM.gx (by assumption)) rfl rfl (Nat.le_of_ble_eq_true rfl) (by have y := m_heldBy (G := G) (l := l) d hB0 hM (rs := 3) (rc := pool) (fr := p + 1) (to := e) (Or.inr ⟨rfl, rfl, by omega⟩) (by omega) hPo hN (by omega) (fun t ht => k7 t (by omega)); rw [show ((p + 1 : Nat) : Int) = (p : Int) + 1 by omega] at y; exact y) (fun v_135 h_135 q_135 => ?_)
    obtain ⟨rfl, rfl⟩ := q_135
    refine r_istore_n (pc := 138) dX11_does_138 (Nat.le_of_ble_eq_true rfl) ?_
    dsimp only [lsSt, List.set, mLs, mEnt]
    refine r_iload_n (pc := 139) dX11_does_139 rfl ?_
    refine rj_if_lt (pc := 140) (tgt := 148) dX11_does_140 (by decide) (by first | assumption | exact b01_r | exact bz_r | omega | (constructor <;> omega) | exact hM _ | exact hPo _ | exact hTa _ | exact hRo _) (fun c_140 => ?_) (fun c_140 => ?_)
    · refine r_iload_n (pc := 148) dX11_does_148 rfl ?_
      refine rj_if_ge (pc := 149) (tgt := 157) dX11_does_149 (by decide) (by first | assumption | exact b01_r | exact bz_r | omega | (constructor <;> omega) | exact hM _ | exact hPo _ | exact hTa _ | exact hRo _) (fun c_149 => ?_) (fun c_149 => ?_)
      · exfalso; omega
      · refine rj_bipush (pc := 152) dX11_does_152 (by decide +kernel) ?_
        refine r_goto (pc := 154) (tgt := 158) dX11_does_154 (by decide) ?_
        refine r_ireturn (pc := 158) .int dX11_does_158 rfl (by first | rfl | assumption) ?_
        exact ⟨rfl, rfl⟩
    · exfalso; omega
  rw [if_neg e_6_120] at ho_6
  obtain rfl : tgt_6 = 336 := by omega
  exfalso; omega

set_option maxHeartbeats 4000000 in
set_option maxRecDepth 100000 in
theorem d_moveO {G : mG} {l : Launch} (d : Nat) {h : mH} {x s : Nat} {f4 f6 f8 f9 f10 f11 f12 f13 f14 f16 f18 : Int} {m kp was pool tape pln pap rwd rw : Nat → Int}(hB : isM h x (mFs x f4 f6 f8 f9 f10 f11 f12 f13 f14 f16 f18 s) m kp was pool tape pln pap rwd rw) {p : Nat} (hp : p + 40 ≤ 12342) (hPo : ∀ q, InR (pool q)) (hok : mOk m) {s2 : Int} (hs : InR s2) (hk : pool p = 109) {N : Nat} (hN : m 1 = (N : Int)) {e : Nat} (he : neL pool 7 (p + 1) = e) {n : Nat} (hn : n ≤ 20) (hst : stopsBy pool n (if pool (e + 1) = 45 then e + 1 + 1 else e + 1)) (hnr : InR (numAt pool n (e + 1))) (ht : 0 ≤ (hbL m pool (p + 1) e N 0)) (ho : ¬ openP m (numAt pool n (e + 1))) : RUNM G l (d + 5) mX11_does [.ref x, .int (J (p : Int)), .int (J s2)] h (fun v h' => v = some (.int (J 105)) ∧ h' = h) := by
  obtain ⟨hM, k0, k1, k2, k3, k4, k5, k7⟩ := hok
  have hB0 := hB
  dsimp only [mFs] at hB
  have rp := hPo p
  have ge := neL_ge (pool := pool) 7 (p + 1)
  rw [he] at ge
  have hr := hbL_r (m := m) (rc := pool) (fr := p + 1) (to := e) N 0
  refine RUNM.of (by decide +kernel) (Nat.le_of_ble_eq_true rfl) ?_
  refine r_aload_n (pc := 0) dX11_does_0 rfl (by first | rfl | exact isRefV_rf _) ?_
  refine rm_getf (pc := 1) dX11_does_1 fX11_21 (by assumption) rfl ?_
  refine r_iload_n (pc := 4) dX11_does_4 rfl ?_
  refine rj_iald (pc := 5) (j := p) dX11_does_5 (by first | exact isM.g0 (by assumption) | exact isM.g3 (by assumption) | exact isM.g4 (by assumption) | exact isM.g8 (by assumption) | exact isM.g7 (by assumption) | exact isM.g6 (by assumption) | exact isM.g5 (by assumption) | exact isM.g1 (by assumption) | exact isM.g2 (by assumption)) (by first | assumption | exact b01_r | exact bz_r | omega | (constructor <;> omega) | exact hM _ | exact hPo _ | exact hTa _ | exact hRo _) (by first | assumption | exact b01_r | exact bz_r | omega | (constructor <;> omega) | exact hM _ | exact hPo _ | exact hTa _ | exact hRo _) (by first | assumption | exact b01_r | exact bz_r | omega | (constructor <;> omega) | exact hM _ | exact hPo _ | exact hTa _ | exact hRo _) (by omega) ?_
  refine rj_lsw (pc := 6) dX11_does_6 rfl (by first | assumption | exact b01_r | exact bz_r | omega | (constructor <;> omega) | exact hM _ | exact hPo _ | exact hTa _ | exact hRo _) (lsw_pos _ (by decide +kernel) (by decide +kernel)) (fun off_6 tgt_6 ho_6 ht_6 => ?_)
  simp only [Op.lookupswitch.offset_cons, Op.lookupswitch.offset_nil] at ho_6
  by_cases e_6_33 : (33 : Int) = pool p
  · rw [if_pos e_6_33] at ho_6
    obtain rfl : tgt_6 = 103 := by omega
    exfalso; omega
  rw [if_neg e_6_33] at ho_6
  by_cases e_6_43 : (43 : Int) = pool p
  · rw [if_pos e_6_43] at ho_6
    obtain rfl : tgt_6 = 72 := by omega
    exfalso; omega
  rw [if_neg e_6_43] at ho_6
  by_cases e_6_63 : (63 : Int) = pool p
  · rw [if_pos e_6_63] at ho_6
    obtain rfl : tgt_6 = 273 := by omega
    exfalso; omega
  rw [if_neg e_6_63] at ho_6
  by_cases e_6_97 : (97 : Int) = pool p
  · rw [if_pos e_6_97] at ho_6
    obtain rfl : tgt_6 = 111 := by omega
    exfalso; omega
  rw [if_neg e_6_97] at ho_6
  by_cases e_6_107 : (107 : Int) = pool p
  · rw [if_pos e_6_107] at ho_6
    obtain rfl : tgt_6 = 227 := by omega
    exfalso; omega
  rw [if_neg e_6_107] at ho_6
  by_cases e_6_109 : (109 : Int) = pool p
  · rw [if_pos e_6_109] at ho_6
    obtain rfl : tgt_6 = 159 := by omega
    refine r_aload_n (pc := 159) dX11_does_159 rfl (by first | rfl | exact isRefV_rf _) ?_
    refine r_iload_n (pc := 160) dX11_does_160 rfl ?_
    refine rj_iconst (pc := 161) dX11_does_161 ?_
    refine rj_iadd (pc := 162) dX11_does_162 ?_
    refine r_callV1 (pc := 163) dX11_does_163 qX11_nameEnd kX11_160 vX11_nameEnd (by exact isM.gx (by assumption)) rfl rfl (Nat.le_of_ble_eq_true rfl) (by have y := m_nameEnd (G := G) (l := l) (d + 3) hB0 hPo (p := p + 1) (by omega); rw [he, show ((p + 1 : Nat) : Int) = (p : Int) + 1 by omega] at y; exact y) (fun v_163 h_163 q_163 => ?_)
    obtain ⟨rfl, rfl⟩ := q_163
    refine r_istore_n (pc := 166) dX11_does_166 (Nat.le_of_ble_eq_true rfl) ?_
    dsimp only [lsSt, List.set, mLs, mEnt]
    refine r_aload_n (pc := 167) dX11_does_167 rfl (by first | rfl | exact isRefV_rf _) ?_
    refine r_aload_n (pc := 168) dX11_does_168 rfl (by first | rfl | exact isRefV_rf _) ?_
    refine rm_getf (pc := 169) dX11_does_169 fX11_21 (by assumption) rfl ?_
    refine r_iload_n (pc := 172) dX11_does_172 rfl ?_
    refine rj_iconst (pc := 173) dX11_does_173 ?_
    refine rj_iadd (pc := 174) dX11_does_174 ?_
    refine r_iload_n (pc := 175) dX11_does_175 rfl ?_
    refine r_callV3 (pc := 176) dX11_does_176 qX11_heldBy kX11_163 vX11_heldBy (by exact isM.gx (by assumption)) rfl rfl (Nat.le_of_ble_eq_true rfl) (by have y := m_heldBy (G := G) (l := l) (d + 1) hB0 hM (rs := 3) (rc := pool) (fr := p + 1) (to := e) (Or.inr ⟨rfl, rfl, by omega⟩) (by omega) hPo hN (by omega) (fun t ht => k7 t (by omega)); rw [show ((p + 1 : Nat) : Int) = (p : Int) + 1 by omega] at y; exact y) (fun v_176 h_176 q_176 => ?_)
    obtain ⟨rfl, rfl⟩ := q_176
    refine r_istore (pc := 179) dX11_does_179 (Nat.le_of_ble_eq_true rfl) ?_
    dsimp only [lsSt, List.set, mLs, mEnt]
    refine r_aload_n (pc := 181) dX11_does_181 rfl (by first | rfl | exact isRefV_rf _) ?_
    refine r_iload_n (pc := 182) dX11_does_182 rfl ?_
    refine rj_iconst (pc := 183) dX11_does_183 ?_
    refine rj_iadd (pc := 184) dX11_does_184 ?_
    refine r_callV1 (pc := 185) dX11_does_185 qX11_numberAt kX11_171 vX11_numberAt (by exact isM.gx (by assumption)) rfl rfl (Nat.le_of_ble_eq_true rfl) (by have y := m_numberAt (G := G) (l := l) (d + 3) hB0 hPo (p := e + 1) (n := n) (by omega) hst; rw [show ((e + 1 : Nat) : Int) = (e : Int) + 1 by omega] at y; exact y) (fun v_185 h_185 q_185 => ?_)
    obtain ⟨rfl, rfl⟩ := q_185
    refine r_istore (pc := 188) dX11_does_188 (Nat.le_of_ble_eq_true rfl) ?_
    dsimp only [lsSt, List.set, mLs, mEnt]
    refine r_iload (pc := 190) dX11_does_190 rfl ?_
    refine rj_if_lt (pc := 192) (tgt := 204) dX11_does_192 (by decide) (by first | assumption | exact b01_r | exact bz_r | omega | (constructor <;> omega) | exact hM _ | exact hPo _ | exact hTa _ | exact hRo _) (fun c_192 => ?_) (fun c_192 => ?_)
    · exfalso; omega
    · refine r_aload_n (pc := 195) dX11_does_195 rfl (by first | rfl | exact isRefV_rf _) ?_
      refine r_iload (pc := 196) dX11_does_196 rfl ?_
      refine r_callV1 (pc := 198) dX11_does_198 qX11_isOpen kX11_146 vX11_isOpen (by exact isM.gx (by assumption)) rfl rfl (Nat.le_of_ble_eq_true rfl) (m_isOpen _ hB0 hM k0 hnr) (fun v_198 h_198 q_198 => ?_)
      obtain ⟨rfl, rfl⟩ := q_198
      refine rj_if_ne (pc := 201) (tgt := 217) dX11_does_201 (by decide) (by first | assumption | exact b01_r | exact bz_r | omega | (constructor <;> omega) | exact hM _ | exact hPo _ | exact hTa _ | exact hRo _) (fun c_201 => ?_) (fun c_201 => ?_)
      · try simp only [b01_0, bz_0, Classical.not_not] at c_201
        exact absurd c_201 ho
      · try simp only [b01_0, bz_0, Classical.not_not] at c_201
        refine r_iload (pc := 204) dX11_does_204 rfl ?_
        refine rj_if_ge (pc := 206) (tgt := 214) dX11_does_206 (by decide) (by first | assumption | exact b01_r | exact bz_r | omega | (constructor <;> omega) | exact hM _ | exact hPo _ | exact hTa _ | exact hRo _) (fun c_206 => ?_) (fun c_206 => ?_)
        · refine rj_bipush (pc := 214) dX11_does_214 (by decide +kernel) ?_
          refine r_ireturn (pc := 216) .int dX11_does_216 rfl (by first | rfl | assumption) ?_
          exact ⟨rfl, rfl⟩
        · exfalso; omega
  rw [if_neg e_6_109] at ho_6
  by_cases e_6_120 : (120 : Int) = pool p
  · rw [if_pos e_6_120] at ho_6
    obtain rfl : tgt_6 = 120 := by omega
    exfalso; omega
  rw [if_neg e_6_120] at ho_6
  obtain rfl : tgt_6 = 336 := by omega
  exfalso; omega

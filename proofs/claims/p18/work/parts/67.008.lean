set_option maxHeartbeats 4000000 in
set_option maxRecDepth 100000 in
theorem d_ifY {G : mG} {l : Launch} (d : Nat) {h : mH} {x s : Nat} {f4 f6 f8 f9 f10 f11 f12 f13 f14 f16 f18 : Int} {m kp was pool tape pln pap rwd rw : Nat → Int}(hB : isM h x (mFs x f4 f6 f8 f9 f10 f11 f12 f13 f14 f16 f18 s) m kp was pool tape pln pap rwd rw) {p : Nat} (hp : p + 40 ≤ 12342) (hPo : ∀ q, InR (pool q)) (hok : mOk m) {s2 : Int} (hs : InR s2) (hk : pool p = 63) (hc : 48 ≤ pool (p + 1) ∧ pool (p + 1) ≤ 55) {n : Nat} (hn : n ≤ 20) (hst : stopsBy pool n (if pool (p + 3) = 45 then p + 3 + 1 else p + 3)) {k : Nat} (hk3 : p + 3 ≤ k) (hk4 : k ≤ p + 30) (hcol : pool k = 58) (hnc : ∀ j, p + 3 ≤ j → j < k → ¬ pool j = 58) (hcd : m (10 + pool (p + 1) - 48).toNat < numAt pool n (p + 3)) (hnr : InR (numAt pool n (p + 3))) {Q : Option Value → mH → Prop} {E : Nat} (hE : d + 1 ≤ E) (hin : RUNM G l E mX11_does [.ref x, .int (J ((k : Int) + 1)), .int (J s2)] h (fun v h' => (∃ f, v = some (.int (J f))) ∧ Q v h')) : RUNM G l (E + 1) mX11_does [.ref x, .int (J (p : Int)), .int (J s2)] h (fun v h' => Q v h') := by
  obtain ⟨hM, k0, k1, k2, k3, k4, k5, k7⟩ := hok
  have hB0 := hB
  dsimp only [mFs] at hB
  have rp := hPo p
  have rc := hPo (p + 1)
  refine RUNM.of (by decide +kernel) (Nat.le_of_ble_eq_true rfl) ?_
  refine r_aload_n (pc := 0) dX11_does_0 rfl (by first | rfl | exact isRefV_rf _) ?_
  refine rm_getf (pc := 1) dX11_does_1 fX11_21 (by assumption) rfl ?_
  refine r_iload_n (pc := 4) dX11_does_4 rfl ?_
  refine rj_iald (pc := 5) (j := p) dX11_does_5 (by first | exact isM.g0 (by assumption) | exact isM.g3 (by assumption) | exact isM.g4 (by assumption) | exact isM.g8 (by assumption) | exact isM.g7 (by assumption) | exact isM.g6 (by assumption) | exact isM.g5 (by assumption) | exact isM.g1 (by assumption) | exact isM.g2 (by assumption)) (by first | assumption | exact b01_r | exact bz_r | omega | (constructor <;> omega) | exact hM _ | exact hPo _ | exact hTa _ | exact hRo _) (by first | assumption | exact b01_r | exact bz_r | omega | (constructor <;> omega) | exact hM _ | exact hPo _ | exact hTa _ | exact hRo _) (by first | assumption | exact b01_r | exact bz_r | omega | (constructor <;> omega) | exact hM _ | exact hPo _ | exact hTa _ | exact hRo _) (by omega) ?_
  refine rj_lsw (pc := 6) dX11_does_6 rfl (by first | assumption | exact b01_r | exact bz_r | omega | (constructor <;> omega) | exact hM _ | exact hPo _ | exact hTa _ | exact hRo _) (lsw_pos _ (by decide +kernel) (by decide +kernel)) (fun off_6 tgt_6 ho_6 ht_6 => ?_)
  simp only [Op.lookupswitch.offset_cons, Op.lookupswitch.offset_nil] at ho_6
  by_cases e_6_33 : (33 : Int) = pool p
  · rw [if_pos e_6_33] at ho_6
    obtain rfl : tgt_6 = 103 := by omega
    exfalso; omega
  rw [if_neg e_6_33] at ho_6
  by_cases e_6_43 : (43 : Int) = pool p
  · rw [if_pos e_6_43] at ho_6
    obtain rfl : tgt_6 = 72 := by omega
    exfalso; omega
  rw [if_neg e_6_43] at ho_6
  by_cases e_6_63 : (63 : Int) = pool p
  · rw [if_pos e_6_63] at ho_6
    obtain rfl : tgt_6 = 273 := by omega
    refine r_iload_n (pc := 273) dX11_does_273 rfl ?_
    refine rj_iconst (pc := 274) dX11_does_274 ?_
    refine rj_iadd (pc := 275) dX11_does_275 ?_
    refine r_istore_n (pc := 276) dX11_does_276 (Nat.le_of_ble_eq_true rfl) ?_
    dsimp only [lsSt, List.set, mLs, mEnt]
    have st : ((p + 3 : Nat) : Int) = (p : Int) + 3 := by omega
    rw [← st]
    refine L_colon hB0 hPo (by omega) hcol (p + 3) hnc ?_ (k - (p + 3)) (p + 3) (by omega) (Nat.le_refl _)
    refine r_aload_n (pc := 294) dX11_does_294 rfl (by first | rfl | exact isRefV_rf _) ?_
    refine rm_getf (pc := 295) dX11_does_295 fX11_11 (by assumption) rfl ?_
    refine rj_bipush (pc := 298) dX11_does_298 (by decide +kernel) ?_
    refine r_aload_n (pc := 300) dX11_does_300 rfl (by first | rfl | exact isRefV_rf _) ?_
    refine rm_getf (pc := 301) dX11_does_301 fX11_21 (by assumption) rfl ?_
    refine r_iload_n (pc := 304) dX11_does_304 rfl ?_
    refine rj_iconst (pc := 305) dX11_does_305 ?_
    refine rj_iadd (pc := 306) dX11_does_306 ?_
    refine rj_iald (pc := 307) (j := p + 1) dX11_does_307 (by first | exact isM.g0 (by assumption) | exact isM.g3 (by assumption) | exact isM.g4 (by assumption) | exact isM.g8 (by assumption) | exact isM.g7 (by assumption) | exact isM.g6 (by assumption) | exact isM.g5 (by assumption) | exact isM.g1 (by assumption) | exact isM.g2 (by assumption)) (by first | assumption | exact b01_r | exact bz_r | omega | (constructor <;> omega) | exact hM _ | exact hPo _ | exact hTa _ | exact hRo _) (by first | assumption | exact b01_r | exact bz_r | omega | (constructor <;> omega) | exact hM _ | exact hPo _ | exact hTa _ | exact hRo _) (by first | assumption | exact b01_r | exact bz_r | omega | (constructor <;> omega) | exact hM _ | exact hPo _ | exact hTa _ | exact hRo _) (by omega) ?_
    refine rj_iadd (pc := 308) dX11_does_308 ?_
    refine rj_bipush (pc := 309) dX11_does_309 (by decide +kernel) ?_
    refine rj_isub (pc := 311) dX11_does_311 ?_
    refine rj_iald (pc := 312) (j := (10 + pool (p + 1) - 48).toNat) dX11_does_312 (by first | exact isM.g0 (by assumption) | exact isM.g3 (by assumption) | exact isM.g4 (by assumption) | exact isM.g8 (by assumption) | exact isM.g7 (by assumption) | exact isM.g6 (by assumption) | exact isM.g5 (by assumption) | exact isM.g1 (by assumption) | exact isM.g2 (by assumption)) (by first | assumption | exact b01_r | exact bz_r | omega | (constructor <;> omega) | exact hM _ | exact hPo _ | exact hTa _ | exact hRo _) (by first | assumption | exact b01_r | exact bz_r | omega | (constructor <;> omega) | exact hM _ | exact hPo _ | exact hTa _ | exact hRo _) (by first | assumption | exact b01_r | exact bz_r | omega | (constructor <;> omega) | exact hM _ | exact hPo _ | exact hTa _ | exact hRo _) (by omega) ?_
    refine r_aload_n (pc := 313) dX11_does_313 rfl (by first | rfl | exact isRefV_rf _) ?_
    refine r_iload_n (pc := 314) dX11_does_314 rfl ?_
    refine rj_iconst (pc := 315) dX11_does_315 ?_
    refine rj_iadd (pc := 316) dX11_does_316 ?_
    refine r_callV1 (pc := 317) dX11_does_317 qX11_numberAt kX11_171 vX11_numberAt (by exact isM.gx (by assumption)) rfl rfl (Nat.le_of_ble_eq_true rfl) (by have y := m_numberAt (G := G) (l := l) d hB0 hPo (p := p + 3) (n := n) (by omega) hst; rw [show ((p + 3 : Nat) : Int) = (p : Int) + 3 by omega] at y; exact y.deeper (by omega)) (fun v_317 h_317 q_317 => ?_)
    obtain ⟨rfl, rfl⟩ := q_317
    refine rj_icmp_ge (pc := 320) (tgt := 334) dX11_does_320 (by decide) (by first | assumption | exact b01_r | exact bz_r | omega | (constructor <;> omega) | exact hM _ | exact hPo _ | exact hTa _ | exact hRo _) (by first | assumption | exact b01_r | exact bz_r | omega | (constructor <;> omega) | exact hM _ | exact hPo _ | exact hTa _ | exact hRo _) (fun c_320 => ?_) (fun c_320 => ?_)
    · exfalso; omega
    · refine r_aload_n (pc := 323) dX11_does_323 rfl (by first | rfl | exact isRefV_rf _) ?_
      refine r_iload_n (pc := 324) dX11_does_324 rfl ?_
      refine rj_iconst (pc := 325) dX11_does_325 ?_
      refine rj_iadd (pc := 326) dX11_does_326 ?_
      refine r_iload_n (pc := 327) dX11_does_327 rfl ?_
      refine r_callV2 (pc := 328) dX11_does_328 qX11_does kX11_136 vX11_does (by exact isM.gx (by assumption)) rfl rfl (Nat.le_of_ble_eq_true rfl) hin (fun v_328 h_328 q_328 => ?_)
      obtain ⟨⟨f, rfl⟩, q_328b⟩ := q_328
      refine r_goto (pc := 331) (tgt := 335) dX11_does_331 (by decide) ?_
      refine r_ireturn (pc := 335) .int dX11_does_335 rfl (by first | rfl | assumption) ?_
      exact q_328b
  rw [if_neg e_6_63] at ho_6
  by_cases e_6_97 : (97 : Int) = pool p
  · rw [if_pos e_6_97] at ho_6
    obtain rfl : tgt_6 = 111 := by omega
    exfalso; omega
  rw [if_neg e_6_97] at ho_6
  by_cases e_6_107 : (107 : Int) = pool p
  · rw [if_pos e_6_107] at ho_6
    obtain rfl : tgt_6 = 227 := by omega
    exfalso; omega
  rw [if_neg e_6_107] at ho_6
  by_cases e_6_109 : (109 : Int) = pool p
  · rw [if_pos e_6_109] at ho_6
    obtain rfl : tgt_6 = 159 := by omega
    exfalso; omega
  rw [if_neg e_6_109] at ho_6
  by_cases e_6_120 : (120 : Int) = pool p
  · rw [if_pos e_6_120] at ho_6
    obtain rfl : tgt_6 = 120 := by omega
    exfalso; omega
  rw [if_neg e_6_120] at ho_6
  obtain rfl : tgt_6 = 336 := by omega
  exfalso; omega

/-! ===== a task is typed and started (by program) ===== -/
section NF
variable {G : mG} {l : Launch} {x n0 : Nat} {h : mH} {f4 : Int} {m kpm pool : Nat → Int} {ft : Nat → Int} {b : Nat} {tn kk s : Int} {qq : Int32} {sg : Int64} {a11 a12 a13 a14 a15 : Option Value} {Q : Option Value → mH → Prop}
set_option maxHeartbeats 4000000 in
set_option maxRecDepth 100000 in
theorem law_task (hG : G.2.map Prod.snd = mTy) (hn0 : n0 ≤ 500) (hI : RO x (x + 196) n0 f4 m kpm pool 0 ft h) (hj : JI m) (hs : 0 ≤ s ∧ s ≤ m 0 - 1) (hsg : sgt m = sg) (K : TLK G l x n0 b h tn kk s (m 1) qq sg Q) : RUN G l 2048 mLaw 287 [some (.ref b), some (.ref x), some (.int (J 1)), some (.int (J tn)), some (.int qq), some (.int (J kk)), some (.int (J s)), some (.int (J (m 1))), some (.long sg), none, some (.int (J 0)), a11, a12, a13, a14, a15] [] h Q := by
  obtain ⟨fs, ho⟩ := hI.gx
  obtain ⟨m0, m1, m2, m3, hh, hnc, hns, hsc⟩ := hI.b2
  refine bl_new (d := 2045) (pc := 287) hG dL_law_287 dL_law_290 dL_law_291 cL_25 kL_27 hI.lo (by simp [Value.category]) (fun h_287 a_287 B_287 => ?_)
  refine r_iload (pc := 294) dL_law_294 rfl ?_
  refine rj_iconst (pc := 296) dL_law_296 ?_
  refine r_ishr (pc := 297) dL_law_297 ?_
  refine r_callS1 (pc := 298) dL_law_298 qL_text kL_103 sL_text (by simp [Value.category]) (jk_text 2035 hG B_287.lo _) (fun v_298 h_298 q_298 => ?_)
  obtain ⟨p_298, w_298, t1, rfl, T_t1, N_298, S_298⟩ := q_298
  have l_t1 := TX_le T_t1
  refine bl_A (d := 2042) (pc := 301) hG dL_law_301 kL_30 B_287 S_298 N_298 (by simp only [List.length_append, List.length_cons, List.length_nil]; omega) (by simp [Value.category]) (fun h_301 B_301 => ?_)
  refine r_ldcS (pc := 304) (k := 13) dL_law_304 rfl (by decide) rfl ?_
  refine bl_S (d := 2042) (pc := 306) hG dL_law_306 kL_30 B_301 (con_of G (u := [59, 40, 59]) (by decide) (by decide +kernel)) (by simp only [List.length_append, List.length_cons, List.length_nil]; omega) (by simp [Value.category]) (fun h_306 B_306 => ?_)
  refine r_iload (pc := 309) dL_law_309 rfl ?_
  refine rj_bipush (pc := 311) dL_law_311 (by decide +kernel) ?_
  refine r_ishr (pc := 313) dL_law_313 ?_
  refine r_callS1 (pc := 314) dL_law_314 qL_text kL_103 sL_text (by simp [Value.category]) (jk_text 2035 hG B_306.lo _) (fun v_314 h_314 q_314 => ?_)
  obtain ⟨p_314, w_314, t2, rfl, T_t2, N_314, S_314⟩ := q_314
  have l_t2 := TX_le T_t2
  refine bl_A (d := 2042) (pc := 317) hG dL_law_317 kL_30 B_306 S_314 N_314 (by simp only [List.length_append, List.length_cons, List.length_nil]; omega) (by simp [Value.category]) (fun h_317 B_317 => ?_)
  refine r_ldcS (pc := 320) (k := 14) dL_law_320 rfl (by decide) rfl ?_
  refine bl_S (d := 2042) (pc := 322) hG dL_law_322 kL_30 B_317 (con_of G (u := [59, 46, 59]) (by decide) (by decide +kernel)) (by simp only [List.length_append, List.length_cons, List.length_nil]; omega) (by simp [Value.category]) (fun h_322 B_322 => ?_)
  refine r_iload (pc := 325) dL_law_325 rfl ?_
  refine rj_bipush (pc := 327) dL_law_327 (by decide +kernel) ?_
  refine r_ishr (pc := 329) dL_law_329 ?_
  refine r_callS1 (pc := 330) dL_law_330 qL_text kL_103 sL_text (by simp [Value.category]) (jk_text 2035 hG B_322.lo _) (fun v_330 h_330 q_330 => ?_)
  obtain ⟨p_330, w_330, t3, rfl, T_t3, N_330, S_330⟩ := q_330
  have l_t3 := TX_le T_t3
  refine bl_A (d := 2042) (pc := 333) hG dL_law_333 kL_30 B_322 S_330 N_330 (by simp only [List.length_append, List.length_cons, List.length_nil]; omega) (by simp [Value.category]) (fun h_333 B_333 => ?_)
  refine r_ldcS (pc := 336) (k := 15) dL_law_336 rfl (by decide) rfl ?_
  refine bl_S (d := 2042) (pc := 338) hG dL_law_338 kL_30 B_333 (con_of G (u := [59, 41]) (by decide) (by decide +kernel)) (by simp only [List.length_append, List.length_cons, List.length_nil]; omega) (by simp [Value.category]) (fun h_338 B_338 => ?_)
  refine bl_end (d := 2042) (pc := 341) hG dL_law_341 kL_37 B_338 (by simp [Value.category]) (fun h_341 p_341 w_341 N_341 S_341 => ?_)
  have I_341 := hI.news S_341
  have fr_341 := NEWS.fr hI S_341
  have hi_ := hI.hi
  obtain ⟨u, hu⟩ : ∃ u, u = t1 ++ [59, 40, 59] ++ t2 ++ [59, 46, 59] ++ t3 ++ [59, 41] := ⟨_, rfl⟩
  have ul : u.length = t1.length + 3 + t2.length + 3 + t3.length + 2 := by rw [hu]; simp only [List.length_append, List.length_cons, List.length_nil]
  have ub : tyB u := by rw [hu]; exact tyB.app (tyB.app (tyB.app (tyB.app (tyB.app (tyB.tx T_t1) (.cons (by omega) (.cons (by omega) (.cons (by omega) .nil)))) (tyB.tx T_t2)) (.cons (by omega) (.cons (by omega) (.cons (by omega) .nil)))) (tyB.tx T_t3)) (.cons (by omega) (.cons (by omega) .nil))
  rw [List.nil_append, ← hu] at N_341
  refine r_astore (pc := 344) dL_law_344 (Nat.le_of_ble_eq_true rfl) (by first | rfl | exact isRefV_rf _) ?_
  dsimp only [lsSt, List.set, mLs, mEnt]
  refine r_iload_n (pc := 346) dL_law_346 rfl ?_
  refine r_aload_n (pc := 347) dL_law_347 rfl (by first | rfl | exact isRefV_rf _) ?_
  refine r_aload (pc := 348) dL_law_348 rfl (by first | rfl | exact isRefV_rf _) ?_
  refine r_callS2 (pc := 350) dL_law_350 qL_types kL_108 sL_types (Nat.le_of_ble_eq_true rfl) ((jl_types hG (by omega) ⟨by have := N_341.2.1; omega, by have := N_341.2.2; omega⟩ ub (by omega) I_341 N_341.1).deeper (Nat.le_of_ble_eq_true rfl)) (fun v_350 h_350 q_350 => ?_)
  obtain ⟨rfl, f_350, I_350, c_350, F_350⟩ := q_350
  have tk := task_c T_t1 T_t2 T_t3 hu c_350
  obtain ⟨fs_350, ho⟩ := I_350.gx
  have own_350 := F_350.own (x := x) ⟨by have := N_341.2.1; omega, by have := N_341.2.2; omega⟩ N_341.1
  refine rj_and1 (pc := 353) dL_law_353 ?_
  refine r_istore_n (pc := 354) dL_law_354 (Nat.le_of_ble_eq_true rfl) ?_
  dsimp only [lsSt, List.set, mLs, mEnt]
  refine r_aload_n (pc := 355) dL_law_355 rfl (by first | rfl | exact isRefV_rf _) ?_
  refine r_iload (pc := 356) dL_law_356 rfl ?_
  refine r_iload (pc := 358) dL_law_358 rfl ?_
  refine rj_bipush (pc := 360) dL_law_360 (by decide +kernel) ?_
  refine r_ishr (pc := 362) dL_law_362 ?_
  refine rj_bipush (pc := 363) dL_law_363 (by decide +kernel) ?_
  refine rj_andM (pc := 365) dL_law_365 (by constructor <;> decide) (fun e_365 he_365 => ?_)
  refine rj_iconst (pc := 366) dL_law_366 ?_
  refine rj_isub (pc := 367) dL_law_367 ?_
  refine r_callV2 (pc := 368) dL_law_368 qX10_task kL_124 vX10_task ho rfl rfl (Nat.le_of_ble_eq_true rfl) ((oc_task hG (by omega) I_350 (a := s) (by constructor <;> omega) (i := e_365 - 3) (by constructor <;> omega)).deeper (Nat.le_of_ble_eq_true rfl)) (fun v_368 h_368 q_368 => ?_)
  obtain ⟨z_368, g_368, m_368, kp_368, po_368, zt_368, ft_368, rfl, R_368, I_368, F_368, s_368, t_368, u_368⟩ := q_368
  have own_368 := own_350.kp F_368 (by unfold kBlk; have := N_341.2.1; omega) (by unfold kBlk; have := N_341.2.2; omega)
  rcases R_368 with ⟨n_368, c1, c2, c3, c4, c5, c6⟩ | ⟨td, ⟨c1, c3, c5, c6⟩, R2⟩
  · replace c1 := c1.symm; subst c1; replace c2 := c2.symm; subst c2; replace c3 := c3.symm; subst c3; replace c4 := c4.symm; subst c4; replace c5 := c5.symm; subst c5; replace c6 := c6.symm; subst c6
    obtain ⟨fs_368, ho⟩ := I_368.gx
    refine r_istore (pc := 371) dL_law_371 (Nat.le_of_ble_eq_true rfl) ?_
    dsimp only [lsSt, List.set, mLs, mEnt]
    refine r_iload_n (pc := 373) dL_law_373 rfl ?_
    refine r_aload_n (pc := 374) dL_law_374 rfl (by first | rfl | exact isRefV_rf _) ?_
    refine r_callV0 (pc := 375) dL_law_375 qX10_clear kL_115 vX10_clear ho rfl rfl (Nat.le_of_ble_eq_true rfl) ((oc_clear hG (by omega) I_368).deeper (Nat.le_of_ble_eq_true rfl)) (fun v_375 h_375 q_375 => ?_)
    obtain ⟨z_375, g_375, m_375, kp_375, po_375, zt_375, ft_375, rfl, R_375, I_375, F_375, s_375, t_375, u_375⟩ := q_375
    obtain ⟨e1, e2, e3, e4, e5, e6, e7⟩ := R_375
    subst e1
    replace e2 := e2.symm; subst e2; replace e3 := e3.symm; subst e3; replace e4 := e4.symm; subst e4; replace e5 := e5.symm; subst e5; replace e6 := e6.symm; subst e6; replace e7 := e7.symm; subst e7
    have own_375 := F_375.own (x := x) ⟨by have := N_341.2.1; omega, by have := N_341.2.2; omega⟩ own_368
    refine r_iload (pc := 378) dL_law_378 rfl ?_
    refine rj_if_ge (pc := 380) (tgt := 391) dL_law_380 (by decide) (by first | exact b01_r | exact bz_r | omega | (constructor <;> omega) | apply_assumption | (apply atF_r; assumption) | fail "no range") (fun c_380 => ?_) (fun c_380 => ?_)
    · exfalso; first | omega | contradiction | (simp at *; done)
    · refine r_aload (pc := 383) dL_law_383 rfl (by first | rfl | exact isRefV_rf _) ?_
      refine r_callVx (C := "java/lang/String") (pc := 385) dL_law_385 qJ0_length_8abf5 kL_9 ⟨vJ0_length_8abf5.1, vJ0_length_8abf5.2⟩ (As := []) rfl (fun hK hH => str_recv (isS.v (Or.inr own_375)) hK hH) rfl (Nat.le_of_ble_eq_true rfl) ((jk_length 2046 (isS.v (Or.inr own_375)))) (fun v_385 h_385 q_385 => ?_)
      obtain ⟨rfl, e_h⟩ := q_385; replace e_h := e_h.symm; subst e_h
      refine r_goto (pc := 388) (tgt := 392) dL_law_388 (by decide) ?_
      refine rj_icmp_ne (pc := 392) (tgt := 399) dL_law_392 (by decide) (by first | exact b01_r | exact bz_r | omega | (constructor <;> omega) | apply_assumption | (apply atF_r; assumption) | fail "no range") (by first | exact b01_r | exact bz_r | omega | (constructor <;> omega) | apply_assumption | (apply atF_r; assumption) | fail "no range") (fun c_392 => ?_) (fun c_392 => ?_)
      · exfalso; first | omega | contradiction | (simp at *; done)
      · refine rj_iconst (pc := 395) dL_law_395 ?_
        refine r_goto (pc := 396) (tgt := 400) dL_law_396 (by decide) ?_
        refine rj_and1 (pc := 400) dL_law_400 ?_
        refine r_istore_n (pc := 401) dL_law_401 (Nat.le_of_ble_eq_true rfl) ?_
        dsimp only [lsSt, List.set, mLs, mEnt]
        refine r_goto (pc := 402) (tgt := 1216) dL_law_402 (by decide) ?_
        exact K _ _ _ _ _ _ _ z_368 _ _ _ _ _ I_375 hj (by omega) ⟨⟨(s_375.1.trans s_368.1).trans (F_350.1.trans fr_341.1.1), fun q hq => ((s_375.2 q hq).trans (s_368.2 q hq)).trans ((F_350.2.2.2 q (by unfold kBlk; omega)).trans (fr_341.1.2 q hq))⟩, by have := F_350.2.1; omega, by have := F_350.2.2.1; omega⟩ (by constructor <;> omega) (Or.inr (Or.inr hsg))
  · rcases R2 with R2 | ⟨rfl, me⟩
    · rw [tk] at R2; cases R2
    replace c1 := c1.symm; subst c1; replace c3 := c3.symm; subst c3; replace c5 := c5.symm; subst c5; replace c6 := c6.symm; subst c6
    have JN : JI m_368 := by rw [me]; exact J_newTask hj m3 (K := (m 0).toNat) (by omega) (by have := td.2.2.2.2; omega)
    obtain ⟨fs_368, ho⟩ := I_368.gx
    refine r_istore (pc := 371) dL_law_371 (Nat.le_of_ble_eq_true rfl) ?_
    dsimp only [lsSt, List.set, mLs, mEnt]
    refine r_iload_n (pc := 373) dL_law_373 rfl ?_
    refine r_aload_n (pc := 374) dL_law_374 rfl (by first | rfl | exact isRefV_rf _) ?_
    refine r_callV0 (pc := 375) dL_law_375 qX10_clear kL_115 vX10_clear ho rfl rfl (Nat.le_of_ble_eq_true rfl) ((oc_clear hG (by omega) I_368).deeper (Nat.le_of_ble_eq_true rfl)) (fun v_375 h_375 q_375 => ?_)
    obtain ⟨z_375, g_375, m_375, kp_375, po_375, zt_375, ft_375, rfl, R_375, I_375, F_375, s_375, t_375, u_375⟩ := q_375
    obtain ⟨e1, e2, e3, e4, e5, e6, e7⟩ := R_375
    subst e1
    replace e2 := e2.symm; subst e2; replace e3 := e3.symm; subst e3; replace e4 := e4.symm; subst e4; replace e5 := e5.symm; subst e5; replace e6 := e6.symm; subst e6; replace e7 := e7.symm; subst e7
    have own_375 := F_375.own (x := x) ⟨by have := N_341.2.1; omega, by have := N_341.2.2; omega⟩ own_368
    refine r_iload (pc := 378) dL_law_378 rfl ?_
    refine rj_if_ge (pc := 380) (tgt := 391) dL_law_380 (by decide) (by first | exact b01_r | exact bz_r | omega | (constructor <;> omega) | apply_assumption | (apply atF_r; assumption) | fail "no range") (fun c_380 => ?_) (fun c_380 => ?_)
    · refine rj_iconst (pc := 391) dL_law_391 ?_
      refine rj_icmp_ne (pc := 392) (tgt := 399) dL_law_392 (by decide) (by first | exact b01_r | exact bz_r | omega | (constructor <;> omega) | apply_assumption | (apply atF_r; assumption) | fail "no range") (by first | exact b01_r | exact bz_r | omega | (constructor <;> omega) | apply_assumption | (apply atF_r; assumption) | fail "no range") (fun c_392 => ?_) (fun c_392 => ?_)
      · exfalso; first | omega | contradiction | (simp at *; done)
      · refine rj_iconst (pc := 395) dL_law_395 ?_
        refine r_goto (pc := 396) (tgt := 400) dL_law_396 (by decide) ?_
        refine rj_and1 (pc := 400) dL_law_400 ?_
        refine r_istore_n (pc := 401) dL_law_401 (Nat.le_of_ble_eq_true rfl) ?_
        dsimp only [lsSt, List.set, mLs, mEnt]
        refine r_goto (pc := 402) (tgt := 1216) dL_law_402 (by decide) ?_
        exact K _ _ _ _ _ _ _ _ _ _ _ _ _ I_375 JN (by omega) ⟨⟨(s_375.1.trans s_368.1).trans (F_350.1.trans fr_341.1.1), fun q hq => ((s_375.2 q hq).trans (s_368.2 q hq)).trans ((F_350.2.2.2 q (by unfold kBlk; omega)).trans (fr_341.1.2 q hq))⟩, by have := F_350.2.1; omega, by have := F_350.2.2.1; omega⟩ (by constructor <;> omega) (Or.inl (by omega))
    · exfalso; first | omega | contradiction | (simp at *; done)
end NF

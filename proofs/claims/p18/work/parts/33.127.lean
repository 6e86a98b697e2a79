section mg_53
set_option maxHeartbeats 4000000 in
set_option maxRecDepth 100000 in
theorem k_X0 {G : mG} {l : Launch} (d : Nat) (hG : G.2.map Prod.snd = mTy) {h : mH} {a : Nat} (hx : hGet h a = some (.inl (0, [.null, .null, .null, .int 0]))) (hlo : h.1 ≤ a) (hn : h.2.1 = a + 1) : RUNM G l (d + 2) mX0_init [.ref a] h (fun v h' => v = none ∧ zFa h' a ∧ Grow a h h' ∧ h'.1 = h.1 ∧ h'.2.1 = a + 7 ∧ h'.2.2.1 = h.2.2.1 + 276) := by
  refine RUNM.of (by decide +kernel) (Nat.le_of_ble_eq_true rfl) ?_
  refine r_aload_n (pc := 0) dX0_init_0 rfl rfl ?_
  refine r_objInit (pc := 1) dX0_init_1 kX0_3 (Nat.le_of_ble_eq_true rfl) ?_
  refine r_aload_n (pc := 4) dX0_init_4 rfl rfl ?_
  refine rg_newC (pc := 5) (z := a + 1) dX0_init_5 cX0_9 hn (fun h_5 o_5 s_5 l_5 n_5 k_5 => ?_)
  have k_5 : h_5.2.2.1 = h.2.2.1 + (2) := sl_add k_5 sl_0
  refine r_dup (pc := 8) dX0_init_8 rfl ?_
  refine rj_bipush (pc := 9) dX0_init_9 (by decide +kernel) ?_
  refine r_callI1 (pc := 11) dX0_init_11 qX1_init rfl kX0_11 rfl iX1_init (Nat.le_of_ble_eq_true rfl) (ki_init _ hG (N := 90) (by decide) o_5 (Nat.le_trans (Nat.le_trans (Nat.le_of_eq l_5) hlo) (Nat.le_add_right _ _)) n_5) (fun v_11 h_11 q_11 => ?_)
  obtain ⟨rfl, F_11, s_11, l_11, n_11, k_11⟩ := q_11
  have l_11 := l_11.trans l_5
  have k_11 : h_11.2.2.1 = h.2.2.1 + (92) := sl_add k_11 k_5
  refine r_putF (pc := 14) dX0_init_14 fX0_14 ⟨_, rfl, rfl⟩ rfl ((s_11 a (ad_0lt (j := 1) (by decide))).trans ((s_5 a (ad_0ne (j := 1) (by decide))).trans hx)) (Nat.le_trans (Nat.le_of_eq l_11) hlo) rfl rfl (Nat.le_of_ble_eq_true rfl) ?_
  refine rg_gen (fun h_14 o_14 s_14 l_14 n_14 k_14 => ?_)
  dsimp only [List.set] at o_14
  have n_14 := n_14.trans n_11
  have l_14 := l_14.trans l_11
  have k_14 : h_14.2.2.1 = h.2.2.1 + (92) := k_14.trans k_11
  refine r_aload_n (pc := 17) dX0_init_17 rfl rfl ?_
  refine rg_newC (pc := 18) (z := a + 3) dX0_init_18 cX0_9 n_14 (fun h_18 o_18 s_18 l_18 n_18 k_18 => ?_)
  have l_18 := l_18.trans l_14
  have k_18 : h_18.2.2.1 = h.2.2.1 + (94) := sl_add k_18 k_14
  refine r_dup (pc := 21) dX0_init_21 rfl ?_
  refine rj_bipush (pc := 22) dX0_init_22 (by decide +kernel) ?_
  refine r_callI1 (pc := 24) dX0_init_24 qX1_init rfl kX0_11 rfl iX1_init (Nat.le_of_ble_eq_true rfl) (ki_init _ hG (N := 90) (by decide) o_18 (Nat.le_trans (Nat.le_trans (Nat.le_of_eq l_18) hlo) (Nat.le_add_right _ _)) n_18) (fun v_24 h_24 q_24 => ?_)
  obtain ⟨rfl, F_24, s_24, l_24, n_24, k_24⟩ := q_24
  have l_24 := l_24.trans l_18
  have k_24 : h_24.2.2.1 = h.2.2.1 + (184) := sl_add k_24 k_18
  refine r_putF (pc := 27) dX0_init_27 fX0_20 ⟨_, rfl, rfl⟩ rfl ((s_24 a (ad_0lt (j := 3) (by decide))).trans ((s_18 a (ad_0ne (j := 3) (by decide))).trans o_14)) (Nat.le_trans (Nat.le_of_eq l_24) hlo) rfl rfl (Nat.le_of_ble_eq_true rfl) ?_
  refine rg_gen (fun h_27 o_27 s_27 l_27 n_27 k_27 => ?_)
  dsimp only [List.set] at o_27
  have n_27 := n_27.trans n_24
  have l_27 := l_27.trans l_24
  have k_27 : h_27.2.2.1 = h.2.2.1 + (184) := k_27.trans k_24
  refine r_aload_n (pc := 30) dX0_init_30 rfl rfl ?_
  refine rg_newC (pc := 31) (z := a + 5) dX0_init_31 cX0_9 n_27 (fun h_31 o_31 s_31 l_31 n_31 k_31 => ?_)
  have l_31 := l_31.trans l_27
  have k_31 : h_31.2.2.1 = h.2.2.1 + (186) := sl_add k_31 k_27
  refine r_dup (pc := 34) dX0_init_34 rfl ?_
  refine rj_bipush (pc := 35) dX0_init_35 (by decide +kernel) ?_
  refine r_callI1 (pc := 37) dX0_init_37 qX1_init rfl kX0_11 rfl iX1_init (Nat.le_of_ble_eq_true rfl) (ki_init _ hG (N := 90) (by decide) o_31 (Nat.le_trans (Nat.le_trans (Nat.le_of_eq l_31) hlo) (Nat.le_add_right _ _)) n_31) (fun v_37 h_37 q_37 => ?_)
  obtain ⟨rfl, F_37, s_37, l_37, n_37, k_37⟩ := q_37
  have l_37 := l_37.trans l_31
  have k_37 : h_37.2.2.1 = h.2.2.1 + (276) := sl_add k_37 k_31
  refine r_putF (pc := 40) dX0_init_40 fX0_23 ⟨_, rfl, rfl⟩ rfl ((s_37 a (ad_0lt (j := 5) (by decide))).trans ((s_31 a (ad_0ne (j := 5) (by decide))).trans o_27)) (Nat.le_trans (Nat.le_of_eq l_37) hlo) rfl rfl (Nat.le_of_ble_eq_true rfl) ?_
  refine rg_gen (fun h_40 o_40 s_40 l_40 n_40 k_40 => ?_)
  dsimp only [List.set] at o_40
  have n_40 := n_40.trans n_37
  have l_40 := l_40.trans l_37
  have k_40 : h_40.2.2.1 = h.2.2.1 + (276) := k_40.trans k_37
  refine r_return (pc := 43) dX0_init_43 rfl ?_
  refine ⟨rfl, ⟨o_40, ⟨(Nat.le_trans (Nat.le_trans (Nat.le_of_eq l_40) hlo) (Nat.le_add_right _ _)), ((s_40 (a + 1) (ad_ne0 (i := 1) (by decide))).trans ((s_37 (a + 1) (ad_lt (i := 1) (j := 5) (by decide))).trans ((s_31 (a + 1) (ad_ne (i := 1) (j := 5) (by decide))).trans ((s_27 (a + 1) (ad_ne0 (i := 1) (by decide))).trans ((s_24 (a + 1) (ad_lt (i := 1) (j := 3) (by decide))).trans ((s_18 (a + 1) (ad_ne (i := 1) (j := 3) (by decide))).trans ((s_14 (a + 1) (ad_ne0 (i := 1) (by decide))).trans F_11.gx))))))), ((s_40 (a + 2) (ad_ne0 (i := 2) (by decide))).trans ((s_37 (a + 2) (ad_lt (i := 2) (j := 5) (by decide))).trans ((s_31 (a + 2) (ad_ne (i := 2) (j := 5) (by decide))).trans ((s_27 (a + 2) (ad_ne0 (i := 2) (by decide))).trans ((s_24 (a + 2) (ad_lt (i := 2) (j := 3) (by decide))).trans ((s_18 (a + 2) (ad_ne (i := 2) (j := 3) (by decide))).trans ((s_14 (a + 2) (ad_ne0 (i := 2) (by decide))).trans F_11.gc)))))))⟩, ⟨(Nat.le_trans (Nat.le_trans (Nat.le_of_eq l_40) hlo) (Nat.le_add_right _ _)), ((s_40 (a + 3) (ad_ne0 (i := 3) (by decide))).trans ((s_37 (a + 3) (ad_lt (i := 3) (j := 5) (by decide))).trans ((s_31 (a + 3) (ad_ne (i := 3) (j := 5) (by decide))).trans ((s_27 (a + 3) (ad_ne0 (i := 3) (by decide))).trans F_24.gx)))), ((s_40 (a + 4) (ad_ne0 (i := 4) (by decide))).trans ((s_37 (a + 4) (ad_lt (i := 4) (j := 5) (by decide))).trans ((s_31 (a + 4) (ad_ne (i := 4) (j := 5) (by decide))).trans ((s_27 (a + 4) (ad_ne0 (i := 4) (by decide))).trans F_24.gc))))⟩, ⟨(Nat.le_trans (Nat.le_trans (Nat.le_of_eq l_40) hlo) (Nat.le_add_right _ _)), ((s_40 (a + 5) (ad_ne0 (i := 5) (by decide))).trans F_37.gx), ((s_40 (a + 6) (ad_ne0 (i := 6) (by decide))).trans F_37.gc)⟩⟩, fun b hb => ((s_40 b (Nat.ne_of_lt hb)).trans ((s_37 b (b_lt (j := 5) hb)).trans ((s_31 b (b_ne (j := 5) hb)).trans ((s_27 b (Nat.ne_of_lt hb)).trans ((s_24 b (b_lt (j := 3) hb)).trans ((s_18 b (b_ne (j := 3) hb)).trans ((s_14 b (Nat.ne_of_lt hb)).trans ((s_11 b (b_lt (j := 1) hb)).trans ((s_5 b (b_ne (j := 1) hb)).trans rfl))))))))), l_40, n_40, k_40⟩
end mg_53

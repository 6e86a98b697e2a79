section mg_54
set_option maxHeartbeats 4000000 in
set_option maxRecDepth 100000 in
theorem k_X9 {G : mG} {l : Launch} (d : Nat) (hG : G.2.map Prod.snd = mTy) {h : mH} {a : Nat} (hx : hGet h a = some (.inl (9, [.null, .null, .null, .int 0, .int 0, .int 0, .int 0, .null, .null, .null, .null]))) (hlo : h.1 ≤ a) (hn : h.2.1 = a + 1) : RUNM G l (d + 3) mX9_init [.ref a] h (fun v h' => v = none ∧ isW h' a wc0 wC0 wn0 wg0 ∧ Grow a h h' ∧ h'.1 = h.1 ∧ h'.2.1 = a + 177 ∧ h'.2.2.1 = h.2.2.1 + 1524) := by
  refine RUNM.of (by decide +kernel) (Nat.le_of_ble_eq_true rfl) ?_
  refine r_aload_n (pc := 0) dX9_init_0 rfl rfl ?_
  refine r_objInit (pc := 1) dX9_init_1 kX9_3 (Nat.le_of_ble_eq_true rfl) ?_
  refine r_aload_n (pc := 4) dX9_init_4 rfl rfl ?_
  refine rj_bipush (pc := 5) dX9_init_5 (by decide +kernel) ?_
  refine rg_newaR (pc := 7) (z := a + 1) (t := 2) dX9_init_7 hG rfl aX9_9 w_Thing hn (by decide) (by decide) (fun h_7 o_7 s_7 l_7 n_7 k_7 => ?_)
  have k_7 : h_7.2.2.1 = h.2.2.1 + (90) := sl_add k_7 sl_0
  refine r_putF (pc := 10) dX9_init_10 fX9_11 ⟨_, rfl, rfl⟩ rfl ((s_7 a (ad_0ne (j := 1) (by decide))).trans hx) (Nat.le_trans (Nat.le_of_eq l_7) hlo) rfl rfl (Nat.le_of_ble_eq_true rfl) ?_
  refine rg_gen (fun h_10 o_10 s_10 l_10 n_10 k_10 => ?_)
  dsimp only [List.set] at o_10
  have n_10 := n_10.trans n_7
  have l_10 := l_10.trans l_7
  have k_10 : h_10.2.2.1 = h.2.2.1 + (90) := k_10.trans k_7
  refine r_aload_n (pc := 13) dX9_init_13 rfl rfl ?_
  refine rj_bipush (pc := 14) dX9_init_14 (by decide +kernel) ?_
  refine rg_newaR (pc := 16) (z := a + 2) (t := 3) dX9_init_16 hG rfl aX9_17 w_Scope n_10 (by decide) (by decide) (fun h_16 o_16 s_16 l_16 n_16 k_16 => ?_)
  have l_16 := l_16.trans l_10
  have k_16 : h_16.2.2.1 = h.2.2.1 + (150) := sl_add k_16 k_10
  refine r_putF (pc := 19) dX9_init_19 fX9_19 ⟨_, rfl, rfl⟩ rfl ((s_16 a (ad_0ne (j := 2) (by decide))).trans o_10) (Nat.le_trans (Nat.le_of_eq l_16) hlo) rfl rfl (Nat.le_of_ble_eq_true rfl) ?_
  refine rg_gen (fun h_19 o_19 s_19 l_19 n_19 k_19 => ?_)
  dsimp only [List.set] at o_19
  have n_19 := n_19.trans n_16
  have l_19 := l_19.trans l_16
  have k_19 : h_19.2.2.1 = h.2.2.1 + (150) := k_19.trans k_16
  refine r_aload_n (pc := 22) dX9_init_22 rfl rfl ?_
  refine rj_bipush (pc := 23) dX9_init_23 (by decide +kernel) ?_
  refine rg_newaR (pc := 25) (z := a + 3) (t := 4) dX9_init_25 hG rfl aX9_23 w_Task n_19 (by decide) (by decide) (fun h_25 o_25 s_25 l_25 n_25 k_25 => ?_)
  have l_25 := l_25.trans l_19
  have k_25 : h_25.2.2.1 = h.2.2.1 + (160) := sl_add k_25 k_19
  refine r_putF (pc := 28) dX9_init_28 fX9_25 ⟨_, rfl, rfl⟩ rfl ((s_25 a (ad_0ne (j := 3) (by decide))).trans o_19) (Nat.le_trans (Nat.le_of_eq l_25) hlo) rfl rfl (Nat.le_of_ble_eq_true rfl) ?_
  refine rg_gen (fun h_28 o_28 s_28 l_28 n_28 k_28 => ?_)
  dsimp only [List.set] at o_28
  have n_28 := n_28.trans n_25
  have l_28 := l_28.trans l_25
  have k_28 : h_28.2.2.1 = h.2.2.1 + (160) := k_28.trans k_25
  refine r_aload_n (pc := 31) dX9_init_31 rfl rfl ?_
  refine rg_newC (pc := 32) (z := a + 4) dX9_init_32 cX9_29 n_28 (fun h_32 o_32 s_32 l_32 n_32 k_32 => ?_)
  have l_32 := l_32.trans l_28
  have k_32 : h_32.2.2.1 = h.2.2.1 + (162) := sl_add k_32 k_28
  refine r_dup (pc := 35) dX9_init_35 rfl ?_
  refine rj_bipush (pc := 36) dX9_init_36 (by decide +kernel) ?_
  refine r_callI1 (pc := 38) dX9_init_38 qX1_init rfl kX9_31 rfl iX1_init (Nat.le_of_ble_eq_true rfl) (ki_init _ hG (N := 8) (by decide) o_32 (Nat.le_trans (Nat.le_trans (Nat.le_of_eq l_32) hlo) (Nat.le_add_right _ _)) n_32) (fun v_38 h_38 q_38 => ?_)
  obtain ⟨rfl, F_38, s_38, l_38, n_38, k_38⟩ := q_38
  have l_38 := l_38.trans l_32
  have k_38 : h_38.2.2.1 = h.2.2.1 + (170) := sl_add k_38 k_32
  refine r_putF (pc := 41) dX9_init_41 fX9_34 ⟨_, rfl, rfl⟩ rfl ((s_38 a (ad_0lt (j := 4) (by decide))).trans ((s_32 a (ad_0ne (j := 4) (by decide))).trans o_28)) (Nat.le_trans (Nat.le_of_eq l_38) hlo) rfl rfl (Nat.le_of_ble_eq_true rfl) ?_
  refine rg_gen (fun h_41 o_41 s_41 l_41 n_41 k_41 => ?_)
  dsimp only [List.set] at o_41
  have n_41 := n_41.trans n_38
  have l_41 := l_41.trans l_38
  have k_41 : h_41.2.2.1 = h.2.2.1 + (170) := k_41.trans k_38
  refine r_aload_n (pc := 44) dX9_init_44 rfl rfl ?_
  refine rg_newC (pc := 45) (z := a + 6) dX9_init_45 cX9_29 n_41 (fun h_45 o_45 s_45 l_45 n_45 k_45 => ?_)
  have l_45 := l_45.trans l_41
  have k_45 : h_45.2.2.1 = h.2.2.1 + (172) := sl_add k_45 k_41
  refine r_dup (pc := 48) dX9_init_48 rfl ?_
  refine rj_bipush (pc := 49) dX9_init_49 (by decide +kernel) ?_
  refine r_callI1 (pc := 51) dX9_init_51 qX1_init rfl kX9_31 rfl iX1_init (Nat.le_of_ble_eq_true rfl) (ki_init _ hG (N := 90) (by decide) o_45 (Nat.le_trans (Nat.le_trans (Nat.le_of_eq l_45) hlo) (Nat.le_add_right _ _)) n_45) (fun v_51 h_51 q_51 => ?_)
  obtain ⟨rfl, F_51, s_51, l_51, n_51, k_51⟩ := q_51
  have l_51 := l_51.trans l_45
  have k_51 : h_51.2.2.1 = h.2.2.1 + (262) := sl_add k_51 k_45
  refine r_putF (pc := 54) dX9_init_54 fX9_38 ⟨_, rfl, rfl⟩ rfl ((s_51 a (ad_0lt (j := 6) (by decide))).trans ((s_45 a (ad_0ne (j := 6) (by decide))).trans o_41)) (Nat.le_trans (Nat.le_of_eq l_51) hlo) rfl rfl (Nat.le_of_ble_eq_true rfl) ?_
  refine rg_gen (fun h_54 o_54 s_54 l_54 n_54 k_54 => ?_)
  dsimp only [List.set] at o_54
  have n_54 := n_54.trans n_51
  have l_54 := l_54.trans l_51
  have k_54 : h_54.2.2.1 = h.2.2.1 + (262) := k_54.trans k_51
  refine r_aload_n (pc := 57) dX9_init_57 rfl rfl ?_
  refine rg_newC (pc := 58) (z := a + 8) dX9_init_58 cX9_29 n_54 (fun h_58 o_58 s_58 l_58 n_58 k_58 => ?_)
  have l_58 := l_58.trans l_54
  have k_58 : h_58.2.2.1 = h.2.2.1 + (264) := sl_add k_58 k_54
  refine r_dup (pc := 61) dX9_init_61 rfl ?_
  refine rj_sipush (pc := 62) dX9_init_62 (by decide +kernel) ?_
  refine r_callI1 (pc := 65) dX9_init_65 qX1_init rfl kX9_31 rfl iX1_init (Nat.le_of_ble_eq_true rfl) (ki_init _ hG (N := 150) (by decide) o_58 (Nat.le_trans (Nat.le_trans (Nat.le_of_eq l_58) hlo) (Nat.le_add_right _ _)) n_58) (fun v_65 h_65 q_65 => ?_)
  obtain ⟨rfl, F_65, s_65, l_65, n_65, k_65⟩ := q_65
  have l_65 := l_65.trans l_58
  have k_65 : h_65.2.2.1 = h.2.2.1 + (414) := sl_add k_65 k_58
  refine r_putF (pc := 68) dX9_init_68 fX9_41 ⟨_, rfl, rfl⟩ rfl ((s_65 a (ad_0lt (j := 8) (by decide))).trans ((s_58 a (ad_0ne (j := 8) (by decide))).trans o_54)) (Nat.le_trans (Nat.le_of_eq l_65) hlo) rfl rfl (Nat.le_of_ble_eq_true rfl) ?_
  refine rg_gen (fun h_68 o_68 s_68 l_68 n_68 k_68 => ?_)
  dsimp only [List.set] at o_68
  have n_68 := n_68.trans n_65
  have l_68 := l_68.trans l_65
  have k_68 : h_68.2.2.1 = h.2.2.1 + (414) := k_68.trans k_65
  refine r_aload_n (pc := 71) dX9_init_71 rfl rfl ?_
  refine rg_newC (pc := 72) (z := a + 10) dX9_init_72 cX9_44 n_68 (fun h_72 o_72 s_72 l_72 n_72 k_72 => ?_)
  have l_72 := l_72.trans l_68
  have k_72 : h_72.2.2.1 = h.2.2.1 + (418) := sl_add k_72 k_68
  refine r_dup (pc := 75) dX9_init_75 rfl ?_
  refine r_callI0 (pc := 76) dX9_init_76 qX0_init rfl kX9_46 rfl iX0_init (Nat.le_of_ble_eq_true rfl) (k_X0 _ hG o_72 (Nat.le_trans (Nat.le_trans (Nat.le_of_eq l_72) hlo) (Nat.le_add_right _ _)) n_72) (fun v_76 h_76 q_76 => ?_)
  obtain ⟨rfl, F_76, s_76, l_76, n_76, k_76⟩ := q_76
  have l_76 := l_76.trans l_72
  have k_76 : h_76.2.2.1 = h.2.2.1 + (694) := sl_add k_76 k_72
  refine r_putF (pc := 79) dX9_init_79 fX9_47 ⟨_, rfl, rfl⟩ rfl ((s_76 a (ad_0lt (j := 10) (by decide))).trans ((s_72 a (ad_0ne (j := 10) (by decide))).trans o_68)) (Nat.le_trans (Nat.le_of_eq l_76) hlo) rfl rfl (Nat.le_of_ble_eq_true rfl) ?_
  refine rg_gen (fun h_79 o_79 s_79 l_79 n_79 k_79 => ?_)
  dsimp only [List.set] at o_79
  have n_79 := n_79.trans n_76
  have l_79 := l_79.trans l_76
  have k_79 : h_79.2.2.1 = h.2.2.1 + (694) := k_79.trans k_76
  refine rj_iconst (pc := 82) dX9_init_82 ?_
  refine r_istore_n (pc := 83) dX9_init_83 (Nat.le_of_ble_eq_true rfl) ?_
  dsimp only [lsSt, List.set, mLs, mEnt]
  have aT := ((s_79 (a + 1) (ad_ne0 (i := 1) (by decide))).trans ((s_76 (a + 1) (ad_lt (i := 1) (j := 10) (by decide))).trans ((s_72 (a + 1) (ad_ne (i := 1) (j := 10) (by decide))).trans ((s_68 (a + 1) (ad_ne0 (i := 1) (by decide))).trans ((s_65 (a + 1) (ad_lt (i := 1) (j := 8) (by decide))).trans ((s_58 (a + 1) (ad_ne (i := 1) (j := 8) (by decide))).trans ((s_54 (a + 1) (ad_ne0 (i := 1) (by decide))).trans ((s_51 (a + 1) (ad_lt (i := 1) (j := 6) (by decide))).trans ((s_45 (a + 1) (ad_ne (i := 1) (j := 6) (by decide))).trans ((s_41 (a + 1) (ad_ne0 (i := 1) (by decide))).trans ((s_38 (a + 1) (ad_lt (i := 1) (j := 4) (by decide))).trans ((s_32 (a + 1) (ad_ne (i := 1) (j := 4) (by decide))).trans ((s_28 (a + 1) (ad_ne0 (i := 1) (by decide))).trans ((s_25 (a + 1) (ad_ne (i := 1) (j := 3) (by decide))).trans ((s_19 (a + 1) (ad_ne0 (i := 1) (by decide))).trans ((s_16 (a + 1) (ad_ne (i := 1) (j := 2) (by decide))).trans ((s_10 (a + 1) (ad_ne0 (i := 1) (by decide))).trans o_7)))))))))))))))))
  rw [fill_0 (a + 17)] at aT
  refine L_fillT _ hG (w := a) (fs := [.ref (a + 1), .ref (a + 2), .ref (a + 3), .int 0, .int 0, .int 0, .int 0, .ref (a + 4), .ref (a + 6), .ref (a + 8), .ref (a + 10)]) rfl 90 0 h_79 rfl o_79 aT (Nat.le_trans (Nat.le_of_eq l_79) hlo) n_79 (fun h_T s_T o_T z_T l_T n_T k_T => ?_)
  have l_T := l_T.trans l_79
  have k_T : h_T.2.2.1 = h.2.2.1 + (1234) := sl_add k_T k_79
  refine rj_iconst (pc := 112) dX9_init_112 ?_
  refine r_istore_n (pc := 113) dX9_init_113 (Nat.le_of_ble_eq_true rfl) ?_
  dsimp only [lsSt, List.set, mLs, mEnt]
  have aS := ((s_T (a + 2) (ad_lt (i := 2) (j := 17) (by decide)) (ad_ne (i := 2) (j := 1) (by decide))).trans ((s_79 (a + 2) (ad_ne0 (i := 2) (by decide))).trans ((s_76 (a + 2) (ad_lt (i := 2) (j := 10) (by decide))).trans ((s_72 (a + 2) (ad_ne (i := 2) (j := 10) (by decide))).trans ((s_68 (a + 2) (ad_ne0 (i := 2) (by decide))).trans ((s_65 (a + 2) (ad_lt (i := 2) (j := 8) (by decide))).trans ((s_58 (a + 2) (ad_ne (i := 2) (j := 8) (by decide))).trans ((s_54 (a + 2) (ad_ne0 (i := 2) (by decide))).trans ((s_51 (a + 2) (ad_lt (i := 2) (j := 6) (by decide))).trans ((s_45 (a + 2) (ad_ne (i := 2) (j := 6) (by decide))).trans ((s_41 (a + 2) (ad_ne0 (i := 2) (by decide))).trans ((s_38 (a + 2) (ad_lt (i := 2) (j := 4) (by decide))).trans ((s_32 (a + 2) (ad_ne (i := 2) (j := 4) (by decide))).trans ((s_28 (a + 2) (ad_ne0 (i := 2) (by decide))).trans ((s_25 (a + 2) (ad_ne (i := 2) (j := 3) (by decide))).trans ((s_19 (a + 2) (ad_ne0 (i := 2) (by decide))).trans o_16))))))))))))))))
  rw [fill_0 (a + 107)] at aS
  refine L_fillS _ hG (w := a) (fs := [.ref (a + 1), .ref (a + 2), .ref (a + 3), .int 0, .int 0, .int 0, .int 0, .ref (a + 4), .ref (a + 6), .ref (a + 8), .ref (a + 10)]) rfl 60 0 h_T rfl ((s_T a (ad_0lt (j := 17) (by decide)) (ad_0ne (j := 1) (by decide))).trans o_79) aS (Nat.le_trans (Nat.le_of_eq l_T) hlo) n_T (fun h_S s_S o_S z_S l_S n_S k_S => ?_)
  have l_S := l_S.trans l_T
  have k_S : h_S.2.2.1 = h.2.2.1 + (1414) := sl_add k_S k_T
  refine rj_iconst (pc := 142) dX9_init_142 ?_
  refine r_istore_n (pc := 143) dX9_init_143 (Nat.le_of_ble_eq_true rfl) ?_
  dsimp only [lsSt, List.set, mLs, mEnt]
  have aK := ((s_S (a + 3) (ad_lt (i := 3) (j := 107) (by decide)) (ad_ne (i := 3) (j := 2) (by decide))).trans ((s_T (a + 3) (ad_lt (i := 3) (j := 17) (by decide)) (ad_ne (i := 3) (j := 1) (by decide))).trans ((s_79 (a + 3) (ad_ne0 (i := 3) (by decide))).trans ((s_76 (a + 3) (ad_lt (i := 3) (j := 10) (by decide))).trans ((s_72 (a + 3) (ad_ne (i := 3) (j := 10) (by decide))).trans ((s_68 (a + 3) (ad_ne0 (i := 3) (by decide))).trans ((s_65 (a + 3) (ad_lt (i := 3) (j := 8) (by decide))).trans ((s_58 (a + 3) (ad_ne (i := 3) (j := 8) (by decide))).trans ((s_54 (a + 3) (ad_ne0 (i := 3) (by decide))).trans ((s_51 (a + 3) (ad_lt (i := 3) (j := 6) (by decide))).trans ((s_45 (a + 3) (ad_ne (i := 3) (j := 6) (by decide))).trans ((s_41 (a + 3) (ad_ne0 (i := 3) (by decide))).trans ((s_38 (a + 3) (ad_lt (i := 3) (j := 4) (by decide))).trans ((s_32 (a + 3) (ad_ne (i := 3) (j := 4) (by decide))).trans ((s_28 (a + 3) (ad_ne0 (i := 3) (by decide))).trans o_25)))))))))))))))
  rw [fill_0 (a + 167)] at aK
  refine L_fillK _ hG (w := a) (fs := [.ref (a + 1), .ref (a + 2), .ref (a + 3), .int 0, .int 0, .int 0, .int 0, .ref (a + 4), .ref (a + 6), .ref (a + 8), .ref (a + 10)]) rfl 10 0 h_S rfl ((s_S a (ad_0lt (j := 107) (by decide)) (ad_0ne (j := 2) (by decide))).trans ((s_T a (ad_0lt (j := 17) (by decide)) (ad_0ne (j := 1) (by decide))).trans o_79)) aK (Nat.le_trans (Nat.le_of_eq l_S) hlo) n_S (fun h_K s_K o_K z_K l_K n_K k_K => ?_)
  have l_K := l_K.trans l_S
  have k_K : h_K.2.2.1 = h.2.2.1 + (1524) := sl_add k_K k_S
  have lo9 : h_K.1 ≤ a := (Nat.le_trans (Nat.le_of_eq l_K) hlo)
  have e0 := ((s_K a (ad_0lt (j := 167) (by decide)) (ad_0ne (j := 3) (by decide))).trans ((s_S a (ad_0lt (j := 107) (by decide)) (ad_0ne (j := 2) (by decide))).trans ((s_T a (ad_0lt (j := 17) (by decide)) (ad_0ne (j := 1) (by decide))).trans o_79)))
  have e1 := ((s_K (a + 1) (ad_lt (i := 1) (j := 167) (by decide)) (ad_ne (i := 1) (j := 3) (by decide))).trans ((s_S (a + 1) (ad_lt (i := 1) (j := 107) (by decide)) (ad_ne (i := 1) (j := 2) (by decide))).trans o_T))
  have e2 := ((s_K (a + 2) (ad_lt (i := 2) (j := 167) (by decide)) (ad_ne (i := 2) (j := 3) (by decide))).trans o_S)
  have e3 := o_K
  have e10 := ((s_K (a + 10) (ad_lt (i := 10) (j := 167) (by decide)) (ad_ne (i := 10) (j := 3) (by decide))).trans ((s_S (a + 10) (ad_lt (i := 10) (j := 107) (by decide)) (ad_ne (i := 10) (j := 2) (by decide))).trans ((s_T (a + 10) (ad_lt (i := 10) (j := 17) (by decide)) (ad_ne (i := 10) (j := 1) (by decide))).trans ((s_79 (a + 10) (ad_ne0 (i := 10) (by decide))).trans F_76.1))))
  have e4 := ((s_K (a + 4) (ad_lt (i := 4) (j := 167) (by decide)) (ad_ne (i := 4) (j := 3) (by decide))).trans ((s_S (a + 4) (ad_lt (i := 4) (j := 107) (by decide)) (ad_ne (i := 4) (j := 2) (by decide))).trans ((s_T (a + 4) (ad_lt (i := 4) (j := 17) (by decide)) (ad_ne (i := 4) (j := 1) (by decide))).trans ((s_79 (a + 4) (ad_ne0 (i := 4) (by decide))).trans ((s_76 (a + 4) (ad_lt (i := 4) (j := 10) (by decide))).trans ((s_72 (a + 4) (ad_ne (i := 4) (j := 10) (by decide))).trans ((s_68 (a + 4) (ad_ne0 (i := 4) (by decide))).trans ((s_65 (a + 4) (ad_lt (i := 4) (j := 8) (by decide))).trans ((s_58 (a + 4) (ad_ne (i := 4) (j := 8) (by decide))).trans ((s_54 (a + 4) (ad_ne0 (i := 4) (by decide))).trans ((s_51 (a + 4) (ad_lt (i := 4) (j := 6) (by decide))).trans ((s_45 (a + 4) (ad_ne (i := 4) (j := 6) (by decide))).trans ((s_41 (a + 4) (ad_ne0 (i := 4) (by decide))).trans F_38.gx)))))))))))))
  have e5 := ((s_K (a + 5) (ad_lt (i := 5) (j := 167) (by decide)) (ad_ne (i := 5) (j := 3) (by decide))).trans ((s_S (a + 5) (ad_lt (i := 5) (j := 107) (by decide)) (ad_ne (i := 5) (j := 2) (by decide))).trans ((s_T (a + 5) (ad_lt (i := 5) (j := 17) (by decide)) (ad_ne (i := 5) (j := 1) (by decide))).trans ((s_79 (a + 5) (ad_ne0 (i := 5) (by decide))).trans ((s_76 (a + 5) (ad_lt (i := 5) (j := 10) (by decide))).trans ((s_72 (a + 5) (ad_ne (i := 5) (j := 10) (by decide))).trans ((s_68 (a + 5) (ad_ne0 (i := 5) (by decide))).trans ((s_65 (a + 5) (ad_lt (i := 5) (j := 8) (by decide))).trans ((s_58 (a + 5) (ad_ne (i := 5) (j := 8) (by decide))).trans ((s_54 (a + 5) (ad_ne0 (i := 5) (by decide))).trans ((s_51 (a + 5) (ad_lt (i := 5) (j := 6) (by decide))).trans ((s_45 (a + 5) (ad_ne (i := 5) (j := 6) (by decide))).trans ((s_41 (a + 5) (ad_ne0 (i := 5) (by decide))).trans F_38.gc)))))))))))))
  have e6 := ((s_K (a + 6) (ad_lt (i := 6) (j := 167) (by decide)) (ad_ne (i := 6) (j := 3) (by decide))).trans ((s_S (a + 6) (ad_lt (i := 6) (j := 107) (by decide)) (ad_ne (i := 6) (j := 2) (by decide))).trans ((s_T (a + 6) (ad_lt (i := 6) (j := 17) (by decide)) (ad_ne (i := 6) (j := 1) (by decide))).trans ((s_79 (a + 6) (ad_ne0 (i := 6) (by decide))).trans ((s_76 (a + 6) (ad_lt (i := 6) (j := 10) (by decide))).trans ((s_72 (a + 6) (ad_ne (i := 6) (j := 10) (by decide))).trans ((s_68 (a + 6) (ad_ne0 (i := 6) (by decide))).trans ((s_65 (a + 6) (ad_lt (i := 6) (j := 8) (by decide))).trans ((s_58 (a + 6) (ad_ne (i := 6) (j := 8) (by decide))).trans ((s_54 (a + 6) (ad_ne0 (i := 6) (by decide))).trans F_51.gx))))))))))
  have e7 := ((s_K (a + 7) (ad_lt (i := 7) (j := 167) (by decide)) (ad_ne (i := 7) (j := 3) (by decide))).trans ((s_S (a + 7) (ad_lt (i := 7) (j := 107) (by decide)) (ad_ne (i := 7) (j := 2) (by decide))).trans ((s_T (a + 7) (ad_lt (i := 7) (j := 17) (by decide)) (ad_ne (i := 7) (j := 1) (by decide))).trans ((s_79 (a + 7) (ad_ne0 (i := 7) (by decide))).trans ((s_76 (a + 7) (ad_lt (i := 7) (j := 10) (by decide))).trans ((s_72 (a + 7) (ad_ne (i := 7) (j := 10) (by decide))).trans ((s_68 (a + 7) (ad_ne0 (i := 7) (by decide))).trans ((s_65 (a + 7) (ad_lt (i := 7) (j := 8) (by decide))).trans ((s_58 (a + 7) (ad_ne (i := 7) (j := 8) (by decide))).trans ((s_54 (a + 7) (ad_ne0 (i := 7) (by decide))).trans F_51.gc))))))))))
  have e8 := ((s_K (a + 8) (ad_lt (i := 8) (j := 167) (by decide)) (ad_ne (i := 8) (j := 3) (by decide))).trans ((s_S (a + 8) (ad_lt (i := 8) (j := 107) (by decide)) (ad_ne (i := 8) (j := 2) (by decide))).trans ((s_T (a + 8) (ad_lt (i := 8) (j := 17) (by decide)) (ad_ne (i := 8) (j := 1) (by decide))).trans ((s_79 (a + 8) (ad_ne0 (i := 8) (by decide))).trans ((s_76 (a + 8) (ad_lt (i := 8) (j := 10) (by decide))).trans ((s_72 (a + 8) (ad_ne (i := 8) (j := 10) (by decide))).trans ((s_68 (a + 8) (ad_ne0 (i := 8) (by decide))).trans F_65.gx)))))))
  have e9 := ((s_K (a + 9) (ad_lt (i := 9) (j := 167) (by decide)) (ad_ne (i := 9) (j := 3) (by decide))).trans ((s_S (a + 9) (ad_lt (i := 9) (j := 107) (by decide)) (ad_ne (i := 9) (j := 2) (by decide))).trans ((s_T (a + 9) (ad_lt (i := 9) (j := 17) (by decide)) (ad_ne (i := 9) (j := 1) (by decide))).trans ((s_79 (a + 9) (ad_ne0 (i := 9) (by decide))).trans ((s_76 (a + 9) (ad_lt (i := 9) (j := 10) (by decide))).trans ((s_72 (a + 9) (ad_ne (i := 9) (j := 10) (by decide))).trans ((s_68 (a + 9) (ad_ne0 (i := 9) (by decide))).trans F_65.gc)))))))
  have e11 := ((s_K (a + 11) (ad_lt (i := 11) (j := 167) (by decide)) (ad_ne (i := 11) (j := 3) (by decide))).trans ((s_S (a + 11) (ad_lt (i := 11) (j := 107) (by decide)) (ad_ne (i := 11) (j := 2) (by decide))).trans ((s_T (a + 11) (ad_lt (i := 11) (j := 17) (by decide)) (ad_ne (i := 11) (j := 1) (by decide))).trans ((s_79 (a + 11) (ad_ne0 (i := 11) (by decide))).trans F_76.2.1.gx))))
  have e12 := ((s_K (a + 12) (ad_lt (i := 12) (j := 167) (by decide)) (ad_ne (i := 12) (j := 3) (by decide))).trans ((s_S (a + 12) (ad_lt (i := 12) (j := 107) (by decide)) (ad_ne (i := 12) (j := 2) (by decide))).trans ((s_T (a + 12) (ad_lt (i := 12) (j := 17) (by decide)) (ad_ne (i := 12) (j := 1) (by decide))).trans ((s_79 (a + 12) (ad_ne0 (i := 12) (by decide))).trans F_76.2.1.gc))))
  have e13 := ((s_K (a + 13) (ad_lt (i := 13) (j := 167) (by decide)) (ad_ne (i := 13) (j := 3) (by decide))).trans ((s_S (a + 13) (ad_lt (i := 13) (j := 107) (by decide)) (ad_ne (i := 13) (j := 2) (by decide))).trans ((s_T (a + 13) (ad_lt (i := 13) (j := 17) (by decide)) (ad_ne (i := 13) (j := 1) (by decide))).trans ((s_79 (a + 13) (ad_ne0 (i := 13) (by decide))).trans F_76.2.2.1.gx))))
  have e14 := ((s_K (a + 14) (ad_lt (i := 14) (j := 167) (by decide)) (ad_ne (i := 14) (j := 3) (by decide))).trans ((s_S (a + 14) (ad_lt (i := 14) (j := 107) (by decide)) (ad_ne (i := 14) (j := 2) (by decide))).trans ((s_T (a + 14) (ad_lt (i := 14) (j := 17) (by decide)) (ad_ne (i := 14) (j := 1) (by decide))).trans ((s_79 (a + 14) (ad_ne0 (i := 14) (by decide))).trans F_76.2.2.1.gc))))
  have e15 := ((s_K (a + 15) (ad_lt (i := 15) (j := 167) (by decide)) (ad_ne (i := 15) (j := 3) (by decide))).trans ((s_S (a + 15) (ad_lt (i := 15) (j := 107) (by decide)) (ad_ne (i := 15) (j := 2) (by decide))).trans ((s_T (a + 15) (ad_lt (i := 15) (j := 17) (by decide)) (ad_ne (i := 15) (j := 1) (by decide))).trans ((s_79 (a + 15) (ad_ne0 (i := 15) (by decide))).trans F_76.2.2.2.gx))))
  have e16 := ((s_K (a + 16) (ad_lt (i := 16) (j := 167) (by decide)) (ad_ne (i := 16) (j := 3) (by decide))).trans ((s_S (a + 16) (ad_lt (i := 16) (j := 107) (by decide)) (ad_ne (i := 16) (j := 2) (by decide))).trans ((s_T (a + 16) (ad_lt (i := 16) (j := 17) (by decide)) (ad_ne (i := 16) (j := 1) (by decide))).trans ((s_79 (a + 16) (ad_ne0 (i := 16) (by decide))).trans F_76.2.2.2.gc))))
  have low9 : ∀ b, b < a → hGet h_K b = hGet h b := fun b hb => ((s_K b (b_lt (j := 167) hb) (b_ne (j := 3) hb)).trans ((s_S b (b_lt (j := 107) hb) (b_ne (j := 2) hb)).trans ((s_T b (b_lt (j := 17) hb) (b_ne (j := 1) hb)).trans ((s_79 b (Nat.ne_of_lt hb)).trans ((s_76 b (b_lt (j := 10) hb)).trans ((s_72 b (b_ne (j := 10) hb)).trans ((s_68 b (Nat.ne_of_lt hb)).trans ((s_65 b (b_lt (j := 8) hb)).trans ((s_58 b (b_ne (j := 8) hb)).trans ((s_54 b (Nat.ne_of_lt hb)).trans ((s_51 b (b_lt (j := 6) hb)).trans ((s_45 b (b_ne (j := 6) hb)).trans ((s_41 b (Nat.ne_of_lt hb)).trans ((s_38 b (b_lt (j := 4) hb)).trans ((s_32 b (b_ne (j := 4) hb)).trans ((s_28 b (Nat.ne_of_lt hb)).trans ((s_25 b (b_ne (j := 3) hb)).trans ((s_19 b (Nat.ne_of_lt hb)).trans ((s_16 b (b_ne (j := 2) hb)).trans ((s_10 b (Nat.ne_of_lt hb)).trans ((s_7 b (b_ne (j := 1) hb)).trans rfl)))))))))))))))))))))
  have n9 : h_K.2.1 = a + 177 := n_K
  have k9 : h_K.2.2.1 = h.2.2.1 + 1524 := k_K
  have l9 : h_K.1 = h.1 := l_K
  exact k_X9_tail d e0 e1 e2 e3 e10 e4 e5 e6 e7 e8 e9 e11 e12 e13 e14 e15 e16 lo9 low9 l9 n9 k9 (fun q hq => (s_K (a + 17 + q) (fl3 hq) fl4).trans ((s_S (a + 17 + q) (fl1 hq) fl2).trans (z_T q (Nat.zero_le _) hq))) (fun q hq => (s_K (a + 107 + q) (fl5 hq) fl6).trans (z_S q (Nat.zero_le _) hq)) (fun q hq => z_K q (Nat.zero_le _) hq)
end mg_54

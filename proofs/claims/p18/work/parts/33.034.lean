section mg_38
set_option maxHeartbeats 4000000 in
set_option maxRecDepth 100000 in
theorem m_init {G : mG} {l : Launch} (d : Nat) (hG : G.2.map Prod.snd = mTy) {h : mH} {x : Nat} (hx : hGet h x = some (.inl (11, [.null, .null, .null, .null, .int 0, .null, .int 0, .null, .int 0, .int 0, .int 0, .int 0, .int 0, .int 0, .int 0, .null, .int 0, .null, .int 0, .null, .null]))) (hlo : h.1 ≤ x) (hn : h.2.1 = x + 1) : RUNM G l (d + 1) mX11_init [.ref x] h (fun v h' => v = none ∧ isM h' x (mFs x 0 0 0 0 0 0 0 0 0 0 0 4) (updI (updI (updI (fun _ => 0) 0 1) 19 (-5)) 21 (-5)) (fun _ => 0) (fun _ => 0) (fun _ => 0) (fun _ => 0) (fun _ => 0) (fun _ => 0) (updI (updI (updI (updI (fun _ => 0) 0 (-1)) 1 (-1)) 2 (-1)) 3 (-1)) (fun _ => 0) ∧ (∀ b, b < x → hGet h' b = hGet h b) ∧ h'.1 = h.1 ∧ h'.2.1 = x + 10 ∧ h'.2.2.1 = h.2.2.1 + 21620) := by
  refine RUNM.of (by decide +kernel) (Nat.le_of_ble_eq_true rfl) ?_
  refine r_aload_n (pc := 0) dX11_init_0 rfl rfl ?_
  refine r_objInit (pc := 1) dX11_init_1 kX11_5 (Nat.le_of_ble_eq_true rfl) ?_
  refine r_aload_n (pc := 4) dX11_init_4 rfl rfl ?_
  refine rj_sipush (pc := 5) dX11_init_5 (by decide +kernel) ?_
  refine rg_newaI (pc := 8) (z := (mAd x 0)) dX11_init_8 hG (by rw [hn]; unfold mAd; omega) (by decide) (by decide) (fun h_8 o_8 s_8 l_8 n_8 k_8 => ?_)
  refine r_putf (pc := 10) dX11_init_10 fX11_11 ((s_8 x (by first | exact mAd_x | exact x_mAd | exact mAd_ne (by decide))).trans hx) (by rw [l_8]; exact hlo) rfl rfl (Nat.le_of_ble_eq_true rfl) ?_
  refine rg_gen (fun h_10 o_10 s_10 l_10 n_10 k_10 => ?_)
  dsimp only [List.set] at o_10
  rw [n_8] at n_10
  refine r_aload_n (pc := 13) dX11_init_13 rfl rfl ?_
  refine rj_sipush (pc := 14) dX11_init_14 (by decide +kernel) ?_
  refine rg_newaI (pc := 17) (z := (mAd x 1)) dX11_init_17 hG (by rw [n_10]; unfold mAd; omega) (by decide) (by decide) (fun h_17 o_17 s_17 l_17 n_17 k_17 => ?_)
  refine r_putf (pc := 19) dX11_init_19 fX11_15 ((s_17 x (by first | exact mAd_x | exact x_mAd | exact mAd_ne (by decide))).trans o_10) (by rw [l_17, l_10, l_8]; exact hlo) rfl rfl (Nat.le_of_ble_eq_true rfl) ?_
  refine rg_gen (fun h_19 o_19 s_19 l_19 n_19 k_19 => ?_)
  dsimp only [List.set] at o_19
  rw [n_17] at n_19
  refine r_aload_n (pc := 22) dX11_init_22 rfl rfl ?_
  refine rj_sipush (pc := 23) dX11_init_23 (by decide +kernel) ?_
  refine rg_newaI (pc := 26) (z := (mAd x 2)) dX11_init_26 hG (by rw [n_19]; unfold mAd; omega) (by decide) (by decide) (fun h_26 o_26 s_26 l_26 n_26 k_26 => ?_)
  refine r_putF (pc := 28) dX11_init_28 fX11_18 ⟨_, rfl, rfl⟩ rfl ((s_26 x (by first | exact mAd_x | exact x_mAd | exact mAd_ne (by decide))).trans o_19) (by rw [l_26, l_19, l_17, l_10, l_8]; exact hlo) rfl rfl (Nat.le_of_ble_eq_true rfl) ?_
  refine rg_gen (fun h_28 o_28 s_28 l_28 n_28 k_28 => ?_)
  dsimp only [List.set] at o_28
  rw [n_26] at n_28
  refine r_aload_n (pc := 31) dX11_init_31 rfl rfl ?_
  refine rj_sipush (pc := 32) dX11_init_32 (by decide +kernel) ?_
  refine rg_newaI (pc := 35) (z := (mAd x 3)) dX11_init_35 hG (by rw [n_28]; unfold mAd; omega) (by decide) (by decide) (fun h_35 o_35 s_35 l_35 n_35 k_35 => ?_)
  refine r_putF (pc := 37) dX11_init_37 fX11_21 ⟨_, rfl, rfl⟩ rfl ((s_35 x (by first | exact mAd_x | exact x_mAd | exact mAd_ne (by decide))).trans o_28) (by rw [l_35, l_28, l_26, l_19, l_17, l_10, l_8]; exact hlo) rfl rfl (Nat.le_of_ble_eq_true rfl) ?_
  refine rg_gen (fun h_37 o_37 s_37 l_37 n_37 k_37 => ?_)
  dsimp only [List.set] at o_37
  rw [n_35] at n_37
  refine r_aload_n (pc := 40) dX11_init_40 rfl rfl ?_
  refine rj_bipush (pc := 41) dX11_init_41 (by decide +kernel) ?_
  refine rg_newaI (pc := 43) (z := (mAd x 4)) dX11_init_43 hG (by rw [n_37]; unfold mAd; omega) (by decide) (by decide) (fun h_43 o_43 s_43 l_43 n_43 k_43 => ?_)
  refine r_putF (pc := 45) dX11_init_45 fX11_24 ⟨_, rfl, rfl⟩ rfl ((s_43 x (by first | exact mAd_x | exact x_mAd | exact mAd_ne (by decide))).trans o_37) (by rw [l_43, l_37, l_35, l_28, l_26, l_19, l_17, l_10, l_8]; exact hlo) rfl rfl (Nat.le_of_ble_eq_true rfl) ?_
  refine rg_gen (fun h_45 o_45 s_45 l_45 n_45 k_45 => ?_)
  dsimp only [List.set] at o_45
  rw [n_43] at n_45
  refine r_aload_n (pc := 48) dX11_init_48 rfl rfl ?_
  refine r_aload_n (pc := 49) dX11_init_49 rfl rfl ?_
  refine r_getf (pc := 50) dX11_init_50 fX11_24 o_45 rfl ?_
  refine r_putf (pc := 53) dX11_init_53 fX11_27 o_45 (by rw [l_45, l_43, l_37, l_35, l_28, l_26, l_19, l_17, l_10, l_8]; exact hlo) rfl rfl (Nat.le_of_ble_eq_true rfl) ?_
  refine rg_gen (fun h_53 o_53 s_53 l_53 n_53 k_53 => ?_)
  dsimp only [List.set] at o_53
  rw [n_45] at n_53
  refine r_aload_n (pc := 56) dX11_init_56 rfl rfl ?_
  refine rj_bipush (pc := 57) dX11_init_57 (by decide +kernel) ?_
  refine rg_newaI (pc := 59) (z := (mAd x 5)) dX11_init_59 hG (by rw [n_53]; unfold mAd; omega) (by decide) (by decide) (fun h_59 o_59 s_59 l_59 n_59 k_59 => ?_)
  refine r_putF (pc := 61) dX11_init_61 fX11_30 ⟨_, rfl, rfl⟩ rfl ((s_59 x (by first | exact mAd_x | exact x_mAd | exact mAd_ne (by decide))).trans o_53) (by rw [l_59, l_53, l_45, l_43, l_37, l_35, l_28, l_26, l_19, l_17, l_10, l_8]; exact hlo) rfl rfl (Nat.le_of_ble_eq_true rfl) ?_
  refine rg_gen (fun h_61 o_61 s_61 l_61 n_61 k_61 => ?_)
  dsimp only [List.set] at o_61
  rw [n_59] at n_61
  refine r_aload_n (pc := 64) dX11_init_64 rfl rfl ?_
  refine rj_bipush (pc := 65) dX11_init_65 (by decide +kernel) ?_
  refine rg_newaI (pc := 67) (z := (mAd x 6)) dX11_init_67 hG (by rw [n_61]; unfold mAd; omega) (by decide) (by decide) (fun h_67 o_67 s_67 l_67 n_67 k_67 => ?_)
  refine r_putF (pc := 69) dX11_init_69 fX11_33 ⟨_, rfl, rfl⟩ rfl ((s_67 x (by first | exact mAd_x | exact x_mAd | exact mAd_ne (by decide))).trans o_61) (by rw [l_67, l_61, l_59, l_53, l_45, l_43, l_37, l_35, l_28, l_26, l_19, l_17, l_10, l_8]; exact hlo) rfl rfl (Nat.le_of_ble_eq_true rfl) ?_
  refine rg_gen (fun h_69 o_69 s_69 l_69 n_69 k_69 => ?_)
  dsimp only [List.set] at o_69
  rw [n_67] at n_69
  refine r_aload_n (pc := 72) dX11_init_72 rfl rfl ?_
  refine rj_iconst (pc := 73) dX11_init_73 ?_
  refine rg_newaI (pc := 74) (z := (mAd x 7)) dX11_init_74 hG (by rw [n_69]; unfold mAd; omega) (by decide) (by decide) (fun h_74 o_74 s_74 l_74 n_74 k_74 => ?_)
  refine r_dup (pc := 76) dX11_init_76 rfl ?_
  refine rj_iconst (pc := 77) dX11_init_77 ?_
  refine rj_iconst (pc := 78) dX11_init_78 ?_
  refine rj_iast (pc := 79) dX11_init_79 o_74 (by rw [l_74, l_69, l_67, l_61, l_59, l_53, l_45, l_43, l_37, l_35, l_28, l_26, l_19, l_17, l_10, l_8]; exact Nat.le_trans hlo (by unfold mAd; omega)) (by decide) (by decide) (by decide) ?_
  refine rg_gen (fun h_79 o_79 s_79 l_79 n_79 k_79 => ?_)
  rw [n_74] at n_79
  refine r_dup (pc := 80) dX11_init_80 rfl ?_
  refine rj_iconst (pc := 81) dX11_init_81 ?_
  refine rj_iconst (pc := 82) dX11_init_82 ?_
  refine rj_iast (pc := 83) dX11_init_83 o_79 (by rw [l_79, l_74, l_69, l_67, l_61, l_59, l_53, l_45, l_43, l_37, l_35, l_28, l_26, l_19, l_17, l_10, l_8]; exact Nat.le_trans hlo (by unfold mAd; omega)) (by decide) (by decide) (by decide) ?_
  refine rg_gen (fun h_83 o_83 s_83 l_83 n_83 k_83 => ?_)
  rw [n_79] at n_83
  refine r_dup (pc := 84) dX11_init_84 rfl ?_
  refine rj_iconst (pc := 85) dX11_init_85 ?_
  refine rj_iconst (pc := 86) dX11_init_86 ?_
  refine rj_iast (pc := 87) dX11_init_87 o_83 (by rw [l_83, l_79, l_74, l_69, l_67, l_61, l_59, l_53, l_45, l_43, l_37, l_35, l_28, l_26, l_19, l_17, l_10, l_8]; exact Nat.le_trans hlo (by unfold mAd; omega)) (by decide) (by decide) (by decide) ?_
  refine rg_gen (fun h_87 o_87 s_87 l_87 n_87 k_87 => ?_)
  rw [n_83] at n_87
  refine r_dup (pc := 88) dX11_init_88 rfl ?_
  refine rj_iconst (pc := 89) dX11_init_89 ?_
  refine rj_iconst (pc := 90) dX11_init_90 ?_
  refine rj_iast (pc := 91) dX11_init_91 o_87 (by rw [l_87, l_83, l_79, l_74, l_69, l_67, l_61, l_59, l_53, l_45, l_43, l_37, l_35, l_28, l_26, l_19, l_17, l_10, l_8]; exact Nat.le_trans hlo (by unfold mAd; omega)) (by decide) (by decide) (by decide) ?_
  refine rg_gen (fun h_91 o_91 s_91 l_91 n_91 k_91 => ?_)
  rw [n_87] at n_91
  refine r_putF (pc := 92) dX11_init_92 fX11_36 ⟨_, rfl, rfl⟩ rfl ((s_91 x (by first | exact mAd_x | exact x_mAd | exact mAd_ne (by decide))).trans ((s_87 x (by first | exact mAd_x | exact x_mAd | exact mAd_ne (by decide))).trans ((s_83 x (by first | exact mAd_x | exact x_mAd | exact mAd_ne (by decide))).trans ((s_79 x (by first | exact mAd_x | exact x_mAd | exact mAd_ne (by decide))).trans ((s_74 x (by first | exact mAd_x | exact x_mAd | exact mAd_ne (by decide))).trans o_69))))) (by rw [l_91, l_87, l_83, l_79, l_74, l_69, l_67, l_61, l_59, l_53, l_45, l_43, l_37, l_35, l_28, l_26, l_19, l_17, l_10, l_8]; exact hlo) rfl rfl (Nat.le_of_ble_eq_true rfl) ?_
  refine rg_gen (fun h_92 o_92 s_92 l_92 n_92 k_92 => ?_)
  dsimp only [List.set] at o_92
  rw [n_91] at n_92
  refine r_aload_n (pc := 95) dX11_init_95 rfl rfl ?_
  refine rj_sipush (pc := 96) dX11_init_96 (by decide +kernel) ?_
  refine rg_newaI (pc := 99) (z := (mAd x 8)) dX11_init_99 hG (by rw [n_92]; unfold mAd; omega) (by decide) (by decide) (fun h_99 o_99 s_99 l_99 n_99 k_99 => ?_)
  refine r_putF (pc := 101) dX11_init_101 fX11_39 ⟨_, rfl, rfl⟩ rfl ((s_99 x (by first | exact mAd_x | exact x_mAd | exact mAd_ne (by decide))).trans o_92) (by rw [l_99, l_92, l_91, l_87, l_83, l_79, l_74, l_69, l_67, l_61, l_59, l_53, l_45, l_43, l_37, l_35, l_28, l_26, l_19, l_17, l_10, l_8]; exact hlo) rfl rfl (Nat.le_of_ble_eq_true rfl) ?_
  refine rg_gen (fun h_101 o_101 s_101 l_101 n_101 k_101 => ?_)
  dsimp only [List.set] at o_101
  rw [n_99] at n_101
  refine r_aload_n (pc := 104) dX11_init_104 rfl rfl ?_
  refine r_getf (pc := 105) dX11_init_105 fX11_11 o_101 rfl ?_
  refine rj_iconst (pc := 108) dX11_init_108 ?_
  refine rj_iconst (pc := 109) dX11_init_109 ?_
  refine rj_iast (pc := 110) dX11_init_110 ((s_101 (mAd x 0) (by first | exact mAd_x | exact x_mAd | exact mAd_ne (by decide))).trans ((s_99 (mAd x 0) (by first | exact mAd_x | exact x_mAd | exact mAd_ne (by decide))).trans ((s_92 (mAd x 0) (by first | exact mAd_x | exact x_mAd | exact mAd_ne (by decide))).trans ((s_91 (mAd x 0) (by first | exact mAd_x | exact x_mAd | exact mAd_ne (by decide))).trans ((s_87 (mAd x 0) (by first | exact mAd_x | exact x_mAd | exact mAd_ne (by decide))).trans ((s_83 (mAd x 0) (by first | exact mAd_x | exact x_mAd | exact mAd_ne (by decide))).trans ((s_79 (mAd x 0) (by first | exact mAd_x | exact x_mAd | exact mAd_ne (by decide))).trans ((s_74 (mAd x 0) (by first | exact mAd_x | exact x_mAd | exact mAd_ne (by decide))).trans ((s_69 (mAd x 0) (by first | exact mAd_x | exact x_mAd | exact mAd_ne (by decide))).trans ((s_67 (mAd x 0) (by first | exact mAd_x | exact x_mAd | exact mAd_ne (by decide))).trans ((s_61 (mAd x 0) (by first | exact mAd_x | exact x_mAd | exact mAd_ne (by decide))).trans ((s_59 (mAd x 0) (by first | exact mAd_x | exact x_mAd | exact mAd_ne (by decide))).trans ((s_53 (mAd x 0) (by first | exact mAd_x | exact x_mAd | exact mAd_ne (by decide))).trans ((s_45 (mAd x 0) (by first | exact mAd_x | exact x_mAd | exact mAd_ne (by decide))).trans ((s_43 (mAd x 0) (by first | exact mAd_x | exact x_mAd | exact mAd_ne (by decide))).trans ((s_37 (mAd x 0) (by first | exact mAd_x | exact x_mAd | exact mAd_ne (by decide))).trans ((s_35 (mAd x 0) (by first | exact mAd_x | exact x_mAd | exact mAd_ne (by decide))).trans ((s_28 (mAd x 0) (by first | exact mAd_x | exact x_mAd | exact mAd_ne (by decide))).trans ((s_26 (mAd x 0) (by first | exact mAd_x | exact x_mAd | exact mAd_ne (by decide))).trans ((s_19 (mAd x 0) (by first | exact mAd_x | exact x_mAd | exact mAd_ne (by decide))).trans ((s_17 (mAd x 0) (by first | exact mAd_x | exact x_mAd | exact mAd_ne (by decide))).trans ((s_10 (mAd x 0) (by first | exact mAd_x | exact x_mAd | exact mAd_ne (by decide))).trans o_8)))))))))))))))))))))) (by rw [l_101, l_99, l_92, l_91, l_87, l_83, l_79, l_74, l_69, l_67, l_61, l_59, l_53, l_45, l_43, l_37, l_35, l_28, l_26, l_19, l_17, l_10, l_8]; exact Nat.le_trans hlo (by unfold mAd; omega)) (by decide) (by decide) (by decide) ?_
  refine rg_gen (fun h_110 o_110 s_110 l_110 n_110 k_110 => ?_)
  rw [n_101] at n_110
  refine r_aload_n (pc := 111) dX11_init_111 rfl rfl ?_
  refine r_getf (pc := 112) dX11_init_112 fX11_11 ((s_110 x (by first | exact mAd_x | exact x_mAd | exact mAd_ne (by decide))).trans o_101) rfl ?_
  refine rj_iconst (pc := 115) dX11_init_115 ?_
  refine rj_iconst (pc := 116) dX11_init_116 ?_
  refine r_callS2 (pc := 117) dX11_init_117 qX11_ofScope kX11_42 sX11_ofScope (Nat.le_of_ble_eq_true rfl) (m_ofScope d) (fun v_117 h_117 q_117 => ?_)
  obtain ⟨rfl, rfl⟩ := q_117
  refine rj_bipush (pc := 120) dX11_init_120 (by decide +kernel) ?_
  refine rj_iast (pc := 122) dX11_init_122 o_110 (by rw [l_110, l_101, l_99, l_92, l_91, l_87, l_83, l_79, l_74, l_69, l_67, l_61, l_59, l_53, l_45, l_43, l_37, l_35, l_28, l_26, l_19, l_17, l_10, l_8]; exact Nat.le_trans hlo (by unfold mAd; omega)) (by decide) (by decide) (by decide) ?_
  refine rg_gen (fun h_122 o_122 s_122 l_122 n_122 k_122 => ?_)
  rw [n_110] at n_122
  refine r_aload_n (pc := 123) dX11_init_123 rfl rfl ?_
  refine r_getf (pc := 124) dX11_init_124 fX11_11 ((s_122 x (by first | exact mAd_x | exact x_mAd | exact mAd_ne (by decide))).trans ((s_110 x (by first | exact mAd_x | exact x_mAd | exact mAd_ne (by decide))).trans o_101)) rfl ?_
  refine rj_iconst (pc := 127) dX11_init_127 ?_
  refine rj_iconst (pc := 128) dX11_init_128 ?_
  refine r_callS2 (pc := 129) dX11_init_129 qX11_ofScope kX11_42 sX11_ofScope (Nat.le_of_ble_eq_true rfl) (m_ofScope d) (fun v_129 h_129 q_129 => ?_)
  obtain ⟨rfl, rfl⟩ := q_129
  refine rj_bipush (pc := 132) dX11_init_132 (by decide +kernel) ?_
  refine rj_iast (pc := 134) dX11_init_134 o_122 (by rw [l_122, l_110, l_101, l_99, l_92, l_91, l_87, l_83, l_79, l_74, l_69, l_67, l_61, l_59, l_53, l_45, l_43, l_37, l_35, l_28, l_26, l_19, l_17, l_10, l_8]; exact Nat.le_trans hlo (by unfold mAd; omega)) (by decide) (by decide) (by decide) ?_
  refine rg_gen (fun h_134 o_134 s_134 l_134 n_134 k_134 => ?_)
  rw [n_122] at n_134
  refine r_return (pc := 135) dX11_init_135 rfl ?_
  have h1 : h_134.1 = h.1 := by rw [l_134, l_122, l_110, l_101, l_99, l_92, l_91, l_87, l_83, l_79, l_74, l_69, l_67, l_61, l_59, l_53, l_45, l_43, l_37, l_35, l_28, l_26, l_19, l_17, l_10, l_8]
  have h2 : h_134.2.1 = x + 10 := by rw [n_134]; unfold mAd; omega
  have h3 : h_134.2.2.1 = h.2.2.1 + 21620 := by rw [k_134, k_122, k_110, k_101, k_99, k_92, k_91, k_87, k_83, k_79, k_74, k_69, k_67, k_61, k_59, k_53, k_45, k_43, k_37, k_35, k_28, k_26, k_19, k_17, k_10, k_8]; simp only [Int.reduceToNat]
  have h4 : ∀ b, b < x → hGet h_134 b = hGet h b := by
    intro b hb
    have hx : b ≠ x := by omega
    have hm : ∀ k, b ≠ mAd x k := fun k => by unfold mAd; omega
    rw [s_134 b (hm _), s_122 b (hm _), s_110 b (hm _), s_101 b hx, s_99 b (hm _), s_92 b hx, s_91 b (hm _), s_87 b (hm _), s_83 b (hm _), s_79 b (hm _), s_74 b (hm _), s_69 b hx, s_67 b (hm _), s_61 b hx, s_59 b (hm _), s_53 b hx, s_45 b hx, s_43 b (hm _), s_37 b hx, s_35 b (hm _), s_28 b hx, s_26 b (hm _), s_19 b hx, s_17 b (hm _), s_10 b hx, s_8 b (hm _)]
  have ex := ((s_134 x (by first | exact mAd_x | exact x_mAd | exact mAd_ne (by decide))).trans ((s_122 x (by first | exact mAd_x | exact x_mAd | exact mAd_ne (by decide))).trans ((s_110 x (by first | exact mAd_x | exact x_mAd | exact mAd_ne (by decide))).trans o_101)))
  have e0 := o_134
  have e1 := ((s_134 (mAd x 1) (by first | exact mAd_x | exact x_mAd | exact mAd_ne (by decide))).trans ((s_122 (mAd x 1) (by first | exact mAd_x | exact x_mAd | exact mAd_ne (by decide))).trans ((s_110 (mAd x 1) (by first | exact mAd_x | exact x_mAd | exact mAd_ne (by decide))).trans ((s_101 (mAd x 1) (by first | exact mAd_x | exact x_mAd | exact mAd_ne (by decide))).trans ((s_99 (mAd x 1) (by first | exact mAd_x | exact x_mAd | exact mAd_ne (by decide))).trans ((s_92 (mAd x 1) (by first | exact mAd_x | exact x_mAd | exact mAd_ne (by decide))).trans ((s_91 (mAd x 1) (by first | exact mAd_x | exact x_mAd | exact mAd_ne (by decide))).trans ((s_87 (mAd x 1) (by first | exact mAd_x | exact x_mAd | exact mAd_ne (by decide))).trans ((s_83 (mAd x 1) (by first | exact mAd_x | exact x_mAd | exact mAd_ne (by decide))).trans ((s_79 (mAd x 1) (by first | exact mAd_x | exact x_mAd | exact mAd_ne (by decide))).trans ((s_74 (mAd x 1) (by first | exact mAd_x | exact x_mAd | exact mAd_ne (by decide))).trans ((s_69 (mAd x 1) (by first | exact mAd_x | exact x_mAd | exact mAd_ne (by decide))).trans ((s_67 (mAd x 1) (by first | exact mAd_x | exact x_mAd | exact mAd_ne (by decide))).trans ((s_61 (mAd x 1) (by first | exact mAd_x | exact x_mAd | exact mAd_ne (by decide))).trans ((s_59 (mAd x 1) (by first | exact mAd_x | exact x_mAd | exact mAd_ne (by decide))).trans ((s_53 (mAd x 1) (by first | exact mAd_x | exact x_mAd | exact mAd_ne (by decide))).trans ((s_45 (mAd x 1) (by first | exact mAd_x | exact x_mAd | exact mAd_ne (by decide))).trans ((s_43 (mAd x 1) (by first | exact mAd_x | exact x_mAd | exact mAd_ne (by decide))).trans ((s_37 (mAd x 1) (by first | exact mAd_x | exact x_mAd | exact mAd_ne (by decide))).trans ((s_35 (mAd x 1) (by first | exact mAd_x | exact x_mAd | exact mAd_ne (by decide))).trans ((s_28 (mAd x 1) (by first | exact mAd_x | exact x_mAd | exact mAd_ne (by decide))).trans ((s_26 (mAd x 1) (by first | exact mAd_x | exact x_mAd | exact mAd_ne (by decide))).trans ((s_19 (mAd x 1) (by first | exact mAd_x | exact x_mAd | exact mAd_ne (by decide))).trans o_17)))))))))))))))))))))))
  have e2 := ((s_134 (mAd x 2) (by first | exact mAd_x | exact x_mAd | exact mAd_ne (by decide))).trans ((s_122 (mAd x 2) (by first | exact mAd_x | exact x_mAd | exact mAd_ne (by decide))).trans ((s_110 (mAd x 2) (by first | exact mAd_x | exact x_mAd | exact mAd_ne (by decide))).trans ((s_101 (mAd x 2) (by first | exact mAd_x | exact x_mAd | exact mAd_ne (by decide))).trans ((s_99 (mAd x 2) (by first | exact mAd_x | exact x_mAd | exact mAd_ne (by decide))).trans ((s_92 (mAd x 2) (by first | exact mAd_x | exact x_mAd | exact mAd_ne (by decide))).trans ((s_91 (mAd x 2) (by first | exact mAd_x | exact x_mAd | exact mAd_ne (by decide))).trans ((s_87 (mAd x 2) (by first | exact mAd_x | exact x_mAd | exact mAd_ne (by decide))).trans ((s_83 (mAd x 2) (by first | exact mAd_x | exact x_mAd | exact mAd_ne (by decide))).trans ((s_79 (mAd x 2) (by first | exact mAd_x | exact x_mAd | exact mAd_ne (by decide))).trans ((s_74 (mAd x 2) (by first | exact mAd_x | exact x_mAd | exact mAd_ne (by decide))).trans ((s_69 (mAd x 2) (by first | exact mAd_x | exact x_mAd | exact mAd_ne (by decide))).trans ((s_67 (mAd x 2) (by first | exact mAd_x | exact x_mAd | exact mAd_ne (by decide))).trans ((s_61 (mAd x 2) (by first | exact mAd_x | exact x_mAd | exact mAd_ne (by decide))).trans ((s_59 (mAd x 2) (by first | exact mAd_x | exact x_mAd | exact mAd_ne (by decide))).trans ((s_53 (mAd x 2) (by first | exact mAd_x | exact x_mAd | exact mAd_ne (by decide))).trans ((s_45 (mAd x 2) (by first | exact mAd_x | exact x_mAd | exact mAd_ne (by decide))).trans ((s_43 (mAd x 2) (by first | exact mAd_x | exact x_mAd | exact mAd_ne (by decide))).trans ((s_37 (mAd x 2) (by first | exact mAd_x | exact x_mAd | exact mAd_ne (by decide))).trans ((s_35 (mAd x 2) (by first | exact mAd_x | exact x_mAd | exact mAd_ne (by decide))).trans ((s_28 (mAd x 2) (by first | exact mAd_x | exact x_mAd | exact mAd_ne (by decide))).trans o_26)))))))))))))))))))))
  have e3 := ((s_134 (mAd x 3) (by first | exact mAd_x | exact x_mAd | exact mAd_ne (by decide))).trans ((s_122 (mAd x 3) (by first | exact mAd_x | exact x_mAd | exact mAd_ne (by decide))).trans ((s_110 (mAd x 3) (by first | exact mAd_x | exact x_mAd | exact mAd_ne (by decide))).trans ((s_101 (mAd x 3) (by first | exact mAd_x | exact x_mAd | exact mAd_ne (by decide))).trans ((s_99 (mAd x 3) (by first | exact mAd_x | exact x_mAd | exact mAd_ne (by decide))).trans ((s_92 (mAd x 3) (by first | exact mAd_x | exact x_mAd | exact mAd_ne (by decide))).trans ((s_91 (mAd x 3) (by first | exact mAd_x | exact x_mAd | exact mAd_ne (by decide))).trans ((s_87 (mAd x 3) (by first | exact mAd_x | exact x_mAd | exact mAd_ne (by decide))).trans ((s_83 (mAd x 3) (by first | exact mAd_x | exact x_mAd | exact mAd_ne (by decide))).trans ((s_79 (mAd x 3) (by first | exact mAd_x | exact x_mAd | exact mAd_ne (by decide))).trans ((s_74 (mAd x 3) (by first | exact mAd_x | exact x_mAd | exact mAd_ne (by decide))).trans ((s_69 (mAd x 3) (by first | exact mAd_x | exact x_mAd | exact mAd_ne (by decide))).trans ((s_67 (mAd x 3) (by first | exact mAd_x | exact x_mAd | exact mAd_ne (by decide))).trans ((s_61 (mAd x 3) (by first | exact mAd_x | exact x_mAd | exact mAd_ne (by decide))).trans ((s_59 (mAd x 3) (by first | exact mAd_x | exact x_mAd | exact mAd_ne (by decide))).trans ((s_53 (mAd x 3) (by first | exact mAd_x | exact x_mAd | exact mAd_ne (by decide))).trans ((s_45 (mAd x 3) (by first | exact mAd_x | exact x_mAd | exact mAd_ne (by decide))).trans ((s_43 (mAd x 3) (by first | exact mAd_x | exact x_mAd | exact mAd_ne (by decide))).trans ((s_37 (mAd x 3) (by first | exact mAd_x | exact x_mAd | exact mAd_ne (by decide))).trans o_35)))))))))))))))))))
  have e4 := ((s_134 (mAd x 4) (by first | exact mAd_x | exact x_mAd | exact mAd_ne (by decide))).trans ((s_122 (mAd x 4) (by first | exact mAd_x | exact x_mAd | exact mAd_ne (by decide))).trans ((s_110 (mAd x 4) (by first | exact mAd_x | exact x_mAd | exact mAd_ne (by decide))).trans ((s_101 (mAd x 4) (by first | exact mAd_x | exact x_mAd | exact mAd_ne (by decide))).trans ((s_99 (mAd x 4) (by first | exact mAd_x | exact x_mAd | exact mAd_ne (by decide))).trans ((s_92 (mAd x 4) (by first | exact mAd_x | exact x_mAd | exact mAd_ne (by decide))).trans ((s_91 (mAd x 4) (by first | exact mAd_x | exact x_mAd | exact mAd_ne (by decide))).trans ((s_87 (mAd x 4) (by first | exact mAd_x | exact x_mAd | exact mAd_ne (by decide))).trans ((s_83 (mAd x 4) (by first | exact mAd_x | exact x_mAd | exact mAd_ne (by decide))).trans ((s_79 (mAd x 4) (by first | exact mAd_x | exact x_mAd | exact mAd_ne (by decide))).trans ((s_74 (mAd x 4) (by first | exact mAd_x | exact x_mAd | exact mAd_ne (by decide))).trans ((s_69 (mAd x 4) (by first | exact mAd_x | exact x_mAd | exact mAd_ne (by decide))).trans ((s_67 (mAd x 4) (by first | exact mAd_x | exact x_mAd | exact mAd_ne (by decide))).trans ((s_61 (mAd x 4) (by first | exact mAd_x | exact x_mAd | exact mAd_ne (by decide))).trans ((s_59 (mAd x 4) (by first | exact mAd_x | exact x_mAd | exact mAd_ne (by decide))).trans ((s_53 (mAd x 4) (by first | exact mAd_x | exact x_mAd | exact mAd_ne (by decide))).trans ((s_45 (mAd x 4) (by first | exact mAd_x | exact x_mAd | exact mAd_ne (by decide))).trans o_43)))))))))))))))))
  have e5 := ((s_134 (mAd x 5) (by first | exact mAd_x | exact x_mAd | exact mAd_ne (by decide))).trans ((s_122 (mAd x 5) (by first | exact mAd_x | exact x_mAd | exact mAd_ne (by decide))).trans ((s_110 (mAd x 5) (by first | exact mAd_x | exact x_mAd | exact mAd_ne (by decide))).trans ((s_101 (mAd x 5) (by first | exact mAd_x | exact x_mAd | exact mAd_ne (by decide))).trans ((s_99 (mAd x 5) (by first | exact mAd_x | exact x_mAd | exact mAd_ne (by decide))).trans ((s_92 (mAd x 5) (by first | exact mAd_x | exact x_mAd | exact mAd_ne (by decide))).trans ((s_91 (mAd x 5) (by first | exact mAd_x | exact x_mAd | exact mAd_ne (by decide))).trans ((s_87 (mAd x 5) (by first | exact mAd_x | exact x_mAd | exact mAd_ne (by decide))).trans ((s_83 (mAd x 5) (by first | exact mAd_x | exact x_mAd | exact mAd_ne (by decide))).trans ((s_79 (mAd x 5) (by first | exact mAd_x | exact x_mAd | exact mAd_ne (by decide))).trans ((s_74 (mAd x 5) (by first | exact mAd_x | exact x_mAd | exact mAd_ne (by decide))).trans ((s_69 (mAd x 5) (by first | exact mAd_x | exact x_mAd | exact mAd_ne (by decide))).trans ((s_67 (mAd x 5) (by first | exact mAd_x | exact x_mAd | exact mAd_ne (by decide))).trans ((s_61 (mAd x 5) (by first | exact mAd_x | exact x_mAd | exact mAd_ne (by decide))).trans o_59))))))))))))))
  have e6 := ((s_134 (mAd x 6) (by first | exact mAd_x | exact x_mAd | exact mAd_ne (by decide))).trans ((s_122 (mAd x 6) (by first | exact mAd_x | exact x_mAd | exact mAd_ne (by decide))).trans ((s_110 (mAd x 6) (by first | exact mAd_x | exact x_mAd | exact mAd_ne (by decide))).trans ((s_101 (mAd x 6) (by first | exact mAd_x | exact x_mAd | exact mAd_ne (by decide))).trans ((s_99 (mAd x 6) (by first | exact mAd_x | exact x_mAd | exact mAd_ne (by decide))).trans ((s_92 (mAd x 6) (by first | exact mAd_x | exact x_mAd | exact mAd_ne (by decide))).trans ((s_91 (mAd x 6) (by first | exact mAd_x | exact x_mAd | exact mAd_ne (by decide))).trans ((s_87 (mAd x 6) (by first | exact mAd_x | exact x_mAd | exact mAd_ne (by decide))).trans ((s_83 (mAd x 6) (by first | exact mAd_x | exact x_mAd | exact mAd_ne (by decide))).trans ((s_79 (mAd x 6) (by first | exact mAd_x | exact x_mAd | exact mAd_ne (by decide))).trans ((s_74 (mAd x 6) (by first | exact mAd_x | exact x_mAd | exact mAd_ne (by decide))).trans ((s_69 (mAd x 6) (by first | exact mAd_x | exact x_mAd | exact mAd_ne (by decide))).trans o_67))))))))))))
  have e7 := ((s_134 (mAd x 7) (by first | exact mAd_x | exact x_mAd | exact mAd_ne (by decide))).trans ((s_122 (mAd x 7) (by first | exact mAd_x | exact x_mAd | exact mAd_ne (by decide))).trans ((s_110 (mAd x 7) (by first | exact mAd_x | exact x_mAd | exact mAd_ne (by decide))).trans ((s_101 (mAd x 7) (by first | exact mAd_x | exact x_mAd | exact mAd_ne (by decide))).trans ((s_99 (mAd x 7) (by first | exact mAd_x | exact x_mAd | exact mAd_ne (by decide))).trans ((s_92 (mAd x 7) (by first | exact mAd_x | exact x_mAd | exact mAd_ne (by decide))).trans o_91))))))
  have e8 := ((s_134 (mAd x 8) (by first | exact mAd_x | exact x_mAd | exact mAd_ne (by decide))).trans ((s_122 (mAd x 8) (by first | exact mAd_x | exact x_mAd | exact mAd_ne (by decide))).trans ((s_110 (mAd x 8) (by first | exact mAd_x | exact x_mAd | exact mAd_ne (by decide))).trans ((s_101 (mAd x 8) (by first | exact mAd_x | exact x_mAd | exact mAd_ne (by decide))).trans o_99))))
  have hI : isM h_134 x (mFs x 0 0 0 0 0 0 0 0 0 0 0 4) (updI (updI (updI (fun _ => 0) 0 1) 19 (-5)) 21 (-5)) (fun _ => 0) (fun _ => 0) (fun _ => 0) (fun _ => 0) (fun _ => 0) (fun _ => 0) (updI (updI (updI (updI (fun _ => 0) 0 (-1)) 1 (-1)) 2 (-1)) 3 (-1)) (fun _ => 0) := by
    unfold isM
    refine ⟨by rw [h1]; exact hlo, ?_, ?_, ?_, ?_, ?_, ?_, ?_, ?_, ?_, ?_⟩
    · rw [ex]; unfold mFs; rw [J_0]
    · exact e0
    · exact e1
    · exact e2
    · exact e3
    · exact e4
    · exact e5
    · exact e6
    · exact e7
    · exact e8
  exact ⟨rfl, hI, h4, h1, h2, h3⟩
end mg_38

section mg_53
set_option maxHeartbeats 4000000 in
set_option maxRecDepth 100000 in
theorem k_X2 {G : mG} {l : Launch} (d : Nat) (hG : G.2.map Prod.snd = mTy) {h : mH} {a : Nat} (hx : hGet h a = some (.inl (2, [.null, .int 0, .int 0, .int 0]))) (hlo : h.1 ≤ a) (hn : h.2.1 = a + 1) : RUNM G l (d + 2) mX2_init [.ref a] h (fun v h' => v = none ∧ isRd h' a 0 0 0 0 (fun _ => 0) ∧ Grow a h h' ∧ h'.1 = h.1 ∧ h'.2.1 = a + 3 ∧ h'.2.2.1 = h.2.2.1 + 122) := by
  refine RUNM.of (by decide +kernel) (Nat.le_of_ble_eq_true rfl) ?_
  refine r_aload_n (pc := 0) dX2_init_0 rfl rfl ?_
  refine r_objInit (pc := 1) dX2_init_1 kX2_3 (Nat.le_of_ble_eq_true rfl) ?_
  refine r_aload_n (pc := 4) dX2_init_4 rfl rfl ?_
  refine rg_newC (pc := 5) (z := a + 1) dX2_init_5 cX2_9 hn (fun h_5 o_5 s_5 l_5 n_5 k_5 => ?_)
  have k_5 : h_5.2.2.1 = h.2.2.1 + (2) := sl_add k_5 sl_0
  refine r_dup (pc := 8) dX2_init_8 rfl ?_
  refine rj_bipush (pc := 9) dX2_init_9 (by decide +kernel) ?_
  refine r_callI1 (pc := 11) dX2_init_11 qX1_init rfl kX2_11 rfl iX1_init (Nat.le_of_ble_eq_true rfl) (ki_init _ hG (N := 120) (by decide) o_5 (Nat.le_trans (Nat.le_trans (Nat.le_of_eq l_5) hlo) (Nat.le_add_right _ _)) n_5) (fun v_11 h_11 q_11 => ?_)
  obtain ⟨rfl, F_11, s_11, l_11, n_11, k_11⟩ := q_11
  have l_11 := l_11.trans l_5
  have k_11 : h_11.2.2.1 = h.2.2.1 + (122) := sl_add k_11 k_5
  refine r_putF (pc := 14) dX2_init_14 fX2_14 ⟨_, rfl, rfl⟩ rfl ((s_11 a (ad_0lt (j := 1) (by decide))).trans ((s_5 a (ad_0ne (j := 1) (by decide))).trans hx)) (Nat.le_trans (Nat.le_of_eq l_11) hlo) rfl rfl (Nat.le_of_ble_eq_true rfl) ?_
  refine rg_gen (fun h_14 o_14 s_14 l_14 n_14 k_14 => ?_)
  dsimp only [List.set] at o_14
  have n_14 := n_14.trans n_11
  have l_14 := l_14.trans l_11
  have k_14 : h_14.2.2.1 = h.2.2.1 + (122) := k_14.trans k_11
  refine r_return (pc := 17) dX2_init_17 rfl ?_
  have y := o_14
  try rw [J_0] at y
  exact ⟨rfl, ⟨(Nat.le_trans (Nat.le_of_eq l_14) hlo), y, ⟨(Nat.le_trans (Nat.le_trans (Nat.le_of_eq l_14) hlo) (Nat.le_add_right _ _)), ((s_14 (a + 1) (ad_ne0 (i := 1) (by decide))).trans F_11.gx), ((s_14 (a + 2) (ad_ne0 (i := 2) (by decide))).trans F_11.gc)⟩⟩, fun b hb => ((s_14 b (Nat.ne_of_lt hb)).trans ((s_11 b (b_lt (j := 1) hb)).trans ((s_5 b (b_ne (j := 1) hb)).trans rfl))), l_14, n_14, k_14⟩
end mg_53

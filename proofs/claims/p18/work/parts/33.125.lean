section mg_53
set_option maxHeartbeats 4000000 in
set_option maxRecDepth 100000 in
theorem ki_init {G : mG} {l : Launch} (d : Nat) (hG : G.2.map Prod.snd = mTy) {h : mH} {a : Nat} {N : Nat} (hN : N ≤ 1000) (hx : hGet h a = some (.inl (1, [.null, .int 0]))) (hlo : h.1 ≤ a) (hn : h.2.1 = a + 1) : RUNM G l (d + 1) mX1_init [.ref a, .int (J (N : Int))] h (fun v h' => v = none ∧ isI h' a N 0 (fun _ => 0) ∧ Grow a h h' ∧ h'.1 = h.1 ∧ h'.2.1 = a + 2 ∧ h'.2.2.1 = h.2.2.1 + N) := by
  refine RUNM.of (by decide +kernel) (Nat.le_of_ble_eq_true rfl) ?_
  refine r_aload_n (pc := 0) dX1_init_0 rfl rfl ?_
  refine r_objInit (pc := 1) dX1_init_1 kX1_1 (Nat.le_of_ble_eq_true rfl) ?_
  refine r_aload_n (pc := 4) dX1_init_4 rfl rfl ?_
  refine r_iload_n (pc := 5) dX1_init_5 rfl ?_
  refine rj_if_ge (pc := 6) (tgt := 13) dX1_init_6 (by decide) ⟨by omega, by omega⟩ (fun c_6 => ?_) (fun c_6 => absurd (Int.natCast_nonneg N) c_6)
  refine r_iload_n (pc := 13) dX1_init_13 rfl ?_
  refine rg_newaI (pc := 14) (z := a + 1) dX1_init_14 hG hn (by omega) (by omega) (fun h_14 o_14 s_14 l_14 n_14 k_14 => ?_)
  have k_14 : h_14.2.2.1 = h.2.2.1 + (0 + N) := sl_add k_14 sl_0
  refine r_putF (pc := 16) dX1_init_16 fX1_7 ⟨_, rfl, rfl⟩ rfl ((s_14 a (ad_0ne (j := 1) (by decide))).trans hx) (Nat.le_trans (Nat.le_of_eq l_14) hlo) rfl rfl (Nat.le_of_ble_eq_true rfl) ?_
  refine rg_gen (fun h_16 o_16 s_16 l_16 n_16 k_16 => ?_)
  dsimp only [List.set] at o_16
  have n_16 := n_16.trans n_14
  have l_16 := l_16.trans l_14
  have k_16 : h_16.2.2.1 = h.2.2.1 + (0 + N) := k_16.trans k_14
  refine r_return (pc := 19) dX1_init_19 rfl ?_
  refine ⟨rfl, ⟨(Nat.le_trans (Nat.le_of_eq l_16) hlo), ?_, ?_⟩, fun b hb => ((s_16 b (Nat.ne_of_lt hb)).trans ((s_14 b (b_ne (j := 1) hb)).trans rfl)), l_16, n_16, (by have y := k_16; omega)⟩
  · have y := o_16; rw [J_0] at y; exact y
  · have y := ((s_16 (a + 1) (ad_ne0 (i := 1) (by decide))).trans o_14); exact y
end mg_53

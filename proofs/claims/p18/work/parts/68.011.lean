section mg_70
set_option maxHeartbeats 4000000 in
set_option maxRecDepth 100000 in
theorem m_shuts {G : mG} {l : Launch} {x s : Nat} {f4 f6 f8 f9 f10 f11 f12 f13 f14 f16 f18 : Int} {kp was pool tape pln pap rwd rw : Nat → Int} (hPo : ∀ q, InR (pool q)) (hs : InR f14) : ∀ (N : Nat) (m m' : Nat → Int) (a : Int) (h : mH), isM h x (mFs x f4 f6 f8 f9 f10 f11 f12 f13 f14 f16 f18 s) m kp was pool tape pln pap rwd rw → shutsR pool f14 N m a m' → RUNM G l (280 + N) mX11_shuts [.ref x, .int (J a)] h (fun v h' => v = none ∧ isM h' x (mFs x f4 f6 f8 f9 f10 f11 f12 f13 f14 f16 f18 s) m' kp was pool tape pln pap rwd rw ∧ Same (mBlk x) h h') := by
  intro N
  induction N with
  | zero => intro m m' a h _ q; exact absurd q id
  | succ N ih =>
    intro m m' a h hB hR
    obtain ⟨⟨hM, k0, k1, k2, k3, k4, k5, k7⟩, ha, hR⟩ := hR
    have hB0 := hB
    rw [show 280 + (N + 1) = 280 + N + 1 by omega]
    refine RUNM.of (by decide +kernel) (Nat.le_of_ble_eq_true rfl) ?_
    rcases hR with ⟨hh, rfl⟩ | ⟨hh, k, m2, hL, rfl⟩
    · dsimp only [mFs] at hB
      refine r_aload_n (pc := 0) dX11_shuts_0 rfl (by first | rfl | exact isRefV_rf _) ?_
      refine r_iload_n (pc := 1) dX11_shuts_1 rfl ?_
      refine r_callV1 (pc := 2) dX11_shuts_2 qX11_isOpen kX11_146 vX11_isOpen (by exact isM.gx (by assumption)) rfl rfl (Nat.le_of_ble_eq_true rfl) (by have y := m_isOpen (G := G) (l := l) (278 + N) hB0 hM k0 (a := a) ha; exact y.deeper (by omega)) (fun v_2 h_2 q_2 => ?_)
      obtain ⟨rfl, rfl⟩ := q_2
      refine rj_if_ne (pc := 5) (tgt := 9) dX11_shuts_5 (by decide) (by first | assumption | exact b01_r | exact bz_r | omega | (constructor <;> omega) | exact hM _ | exact hPo _ | exact hTa _ | exact hRo _) (fun c_5 => ?_) (fun c_5 => ?_)
      · try simp only [b01_0, bz_0, Classical.not_not] at c_5
        exact absurd c_5 hh
      · try simp only [b01_0, bz_0, Classical.not_not] at c_5
        refine r_return (pc := 8) dX11_shuts_8 rfl ?_
        exact ⟨rfl, hB0, Same.refl⟩
    · dsimp only [mFs] at hB
      obtain ⟨hok1, h11⟩ := shLoopR_ok k _ m2 hL
      obtain ⟨hM1, j0, j1, -⟩ := id hok1
      refine r_aload_n (pc := 0) dX11_shuts_0 rfl (by first | rfl | exact isRefV_rf _) ?_
      refine r_iload_n (pc := 1) dX11_shuts_1 rfl ?_
      refine r_callV1 (pc := 2) dX11_shuts_2 qX11_isOpen kX11_146 vX11_isOpen (by exact isM.gx (by assumption)) rfl rfl (Nat.le_of_ble_eq_true rfl) (by have y := m_isOpen (G := G) (l := l) (278 + N) hB0 hM k0 (a := a) ha; exact y.deeper (by omega)) (fun v_2 h_2 q_2 => ?_)
      obtain ⟨rfl, rfl⟩ := q_2
      refine rj_if_ne (pc := 5) (tgt := 9) dX11_shuts_5 (by decide) (by first | assumption | exact b01_r | exact bz_r | omega | (constructor <;> omega) | exact hM _ | exact hPo _ | exact hTa _ | exact hRo _) (fun c_5 => ?_) (fun c_5 => ?_)
      · try simp only [b01_0, bz_0, Classical.not_not] at c_5
        refine r_aload_n (pc := 9) dX11_shuts_9 rfl (by first | rfl | exact isRefV_rf _) ?_
        refine rm_getf (pc := 10) dX11_shuts_10 fX11_11 (by assumption) rfl ?_
        refine r_iload_n (pc := 13) dX11_shuts_13 rfl ?_
        refine rj_iconst (pc := 14) dX11_shuts_14 ?_
        refine r_callS2 (pc := 15) dX11_shuts_15 qX11_ofScope kX11_42 sX11_ofScope (Nat.le_of_ble_eq_true rfl) (m_ofScope _) (fun v_15 h_15 q_15 => ?_)
        obtain ⟨rfl, rfl⟩ := q_15
        refine rj_iconst (pc := 18) dX11_shuts_18 ?_
        first | refine rm_iast0 (pc := 19) (j := (18 + 4 * a).toNat) dX11_shuts_19 (by assumption) (by first | assumption | exact b01_r | exact bz_r | omega | (constructor <;> omega) | exact hM _ | exact hPo _ | exact hTa _ | exact hRo _) (by first | assumption | exact b01_r | exact bz_r | omega | (constructor <;> omega) | exact hM _ | exact hPo _ | exact hTa _ | exact hRo _) (by first | assumption | exact b01_r | exact bz_r | omega | (constructor <;> omega) | exact hM _ | exact hPo _ | exact hTa _ | exact hRo _) (by omega) (fun h_19 hB_19 hS_19 => ?_)
        refine r_aload_n (pc := 20) dX11_shuts_20 rfl (by first | rfl | exact isRefV_rf _) ?_
        refine r_iload_n (pc := 21) dX11_shuts_21 rfl ?_
        refine r_callV1 (pc := 22) dX11_shuts_22 qX11_lastOf kX11_149 vX11_lastOf (by exact isM.gx (by assumption)) rfl rfl (Nat.le_of_ble_eq_true rfl) (by have y := m_lastOf (G := G) (l := l) (277 + N) hB_19 hM1 (N := (updI m (18 + 4 * a).toNat 1 1).toNat) (C := (updI m (18 + 4 * a).toNat 1 0).toNat) (by omega) (by omega) (by omega) (by omega) (by omega) (a := a) ha; exact y.deeper (by omega)) (fun v_22 h_22 q_22 => ?_)
        obtain ⟨rfl, rfl⟩ := q_22
        refine r_istore_n (pc := 25) dX11_shuts_25 (Nat.le_of_ble_eq_true rfl) ?_
        dsimp only [lsSt, List.set, mLs, mEnt]
        exact (L_shuts (D := 280 + N) (by omega) (fun m1 m2 t h z1 z2 => (m_closes hPo hs 91 m1 m2 t h z1 z2).deeper (by omega)) ih ⟨by omega, by omega⟩ k _ _ hB_19 hL).mono (fun v h' q => ⟨q.1, q.2.1, hS_19.trans q.2.2⟩)
      · try simp only [b01_0, bz_0, Classical.not_not] at c_5
        exact absurd hh c_5
end mg_70

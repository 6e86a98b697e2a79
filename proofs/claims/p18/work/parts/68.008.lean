section mg_69
set_option maxHeartbeats 4000000 in
set_option maxRecDepth 100000 in
theorem m_closes {G : mG} {l : Launch} {x s : Nat} {f4 f6 f8 f9 f10 f11 f12 f13 f14 f16 f18 : Int} {kp was pool tape pln pap rwd rw : Nat → Int} (hPo : ∀ q, InR (pool q)) (hs : InR f14) : ∀ (N : Nat) (m m' : Nat → Int) (t : Nat) (h : mH), isM h x (mFs x f4 f6 f8 f9 f10 f11 f12 f13 f14 f16 f18 s) m kp was pool tape pln pap rwd rw → closesR pool f14 N m t m' → RUNM G l (3 * N + 6) mX11_closes [.ref x, .int (J (t : Int))] h (fun v h' => v = none ∧ isM h' x (mFs x f4 f6 f8 f9 f10 f11 f12 f13 f14 f16 f18 s) m' kp was pool tape pln pap rwd rw ∧ Same (mBlk x) h h') := by
  intro N
  induction N with
  | zero => intro m m' t h _ q; exact absurd q id
  | succ N ih =>
    intro m m' t h hB hR
    obtain ⟨⟨hM, k0, k1, k2, k3, k4, k5, k7⟩, ht, hR⟩ := hR
    have hB0 := hB
    rw [show 3 * (N + 1) + 6 = 3 * N + 6 + 3 by omega]
    have e258 : (258 + 14 * (t : Int)).toNat = 258 + 14 * t := by omega
    refine RUNM.of (by decide +kernel) (Nat.le_of_ble_eq_true rfl) ?_
    rcases hR with ⟨hh, rfl⟩ | ⟨hh, p, E, k, f, m2, hp, hE, hp2, hE2, hL, hok2, hf, g2, g4, g5, rfl⟩
    · dsimp only [mFs] at hB
      refine r_aload_n (pc := 0) dX11_closes_0 rfl (by first | rfl | exact isRefV_rf _) ?_
      refine r_iload_n (pc := 1) dX11_closes_1 rfl ?_
      refine r_callV1 (pc := 2) dX11_closes_2 qX11_isHeld kX11_119 vX11_isHeld (by exact isM.gx (by assumption)) rfl rfl (Nat.le_of_ble_eq_true rfl) (by have y := m_isHeld (G := G) (l := l) (3 * N + 7) hB0 hM (a := (t : Int)) (by omega) (by omega); rw [e258] at y; exact y) (fun v_2 h_2 q_2 => ?_)
      obtain ⟨rfl, rfl⟩ := q_2
      refine rj_if_ne (pc := 5) (tgt := 9) dX11_closes_5 (by decide) (by first | assumption | exact b01_r | exact bz_r | omega | (constructor <;> omega) | exact hM _ | exact hPo _ | exact hTa _ | exact hRo _) (fun c_5 => ?_) (fun c_5 => ?_)
      · try simp only [b01_0, bz_0, Classical.not_not] at c_5
        exact absurd c_5 hh
      · try simp only [b01_0, bz_0, Classical.not_not] at c_5
        refine r_return (pc := 8) dX11_closes_8 rfl ?_
        exact ⟨rfl, hB0, Same.refl⟩
    · dsimp only [mFs] at hB
      have q1 : updI m (258 + 14 * t) 1 (262 + 14 * t) = p := (updI_n (by omega)).trans hp
      have q2 : updI m (258 + 14 * t) 1 (263 + 14 * t) = E := (updI_n (by omega)).trans hE
      obtain ⟨hM2, -, -, n2, -, n4, n5, -⟩ := hok2
      refine r_aload_n (pc := 0) dX11_closes_0 rfl (by first | rfl | exact isRefV_rf _) ?_
      refine r_iload_n (pc := 1) dX11_closes_1 rfl ?_
      refine r_callV1 (pc := 2) dX11_closes_2 qX11_isHeld kX11_119 vX11_isHeld (by exact isM.gx (by assumption)) rfl rfl (Nat.le_of_ble_eq_true rfl) (by have y := m_isHeld (G := G) (l := l) (3 * N + 7) hB0 hM (a := (t : Int)) (by omega) (by omega); rw [e258] at y; exact y) (fun v_2 h_2 q_2 => ?_)
      obtain ⟨rfl, rfl⟩ := q_2
      refine rj_if_ne (pc := 5) (tgt := 9) dX11_closes_5 (by decide) (by first | assumption | exact b01_r | exact bz_r | omega | (constructor <;> omega) | exact hM _ | exact hPo _ | exact hTa _ | exact hRo _) (fun c_5 => ?_) (fun c_5 => ?_)
      · try simp only [b01_0, bz_0, Classical.not_not] at c_5
        refine r_aload_n (pc := 9) dX11_closes_9 rfl (by first | rfl | exact isRefV_rf _) ?_
        refine rm_getf (pc := 10) dX11_closes_10 fX11_11 (by assumption) rfl ?_
        refine r_iload_n (pc := 13) dX11_closes_13 rfl ?_
        refine rj_iconst (pc := 14) dX11_closes_14 ?_
        refine rj_iconst (pc := 15) dX11_closes_15 ?_
        refine r_callS3 (pc := 16) dX11_closes_16 qX11_ofThing kX11_54 sX11_ofThing (Nat.le_of_ble_eq_true rfl) (m_ofThing _) (fun v_16 h_16 q_16 => ?_)
        obtain ⟨rfl, rfl⟩ := q_16
        refine rj_iconst (pc := 19) dX11_closes_19 ?_
        first | refine rm_iast0 (pc := 20) (j := 258 + 14 * t) dX11_closes_20 (by assumption) (by first | assumption | exact b01_r | exact bz_r | omega | (constructor <;> omega) | exact hM _ | exact hPo _ | exact hTa _ | exact hRo _) (by first | assumption | exact b01_r | exact bz_r | omega | (constructor <;> omega) | exact hM _ | exact hPo _ | exact hTa _ | exact hRo _) (by first | assumption | exact b01_r | exact bz_r | omega | (constructor <;> omega) | exact hM _ | exact hPo _ | exact hTa _ | exact hRo _) (by omega) (fun h_20 hB_20 hS_20 => ?_)
        refine rj_iconst (pc := 21) dX11_closes_21 ?_
        refine r_istore_n (pc := 22) dX11_closes_22 (Nat.le_of_ble_eq_true rfl) ?_
        dsimp only [lsSt, List.set, mLs, mEnt]
        refine r_aload_n (pc := 23) dX11_closes_23 rfl (by first | rfl | exact isRefV_rf _) ?_
        refine rm_getf (pc := 24) dX11_closes_24 fX11_11 (by assumption) rfl ?_
        refine r_iload_n (pc := 27) dX11_closes_27 rfl ?_
        refine rj_iconst (pc := 28) dX11_closes_28 ?_
        refine rj_iconst (pc := 29) dX11_closes_29 ?_
        refine r_callS3 (pc := 30) dX11_closes_30 qX11_ofThing kX11_54 sX11_ofThing (Nat.le_of_ble_eq_true rfl) (m_ofThing _) (fun v_30 h_30 q_30 => ?_)
        obtain ⟨rfl, rfl⟩ := q_30
        refine rj_iald (pc := 33) (j := 262 + 14 * t) dX11_closes_33 (by first | exact isM.g0 (by assumption) | exact isM.g3 (by assumption) | exact isM.g4 (by assumption) | exact isM.g8 (by assumption) | exact isM.g7 (by assumption) | exact isM.g6 (by assumption) | exact isM.g5 (by assumption) | exact isM.g1 (by assumption) | exact isM.g2 (by assumption)) (by first | assumption | exact b01_r | exact bz_r | omega | (constructor <;> omega) | exact hM _ | exact hPo _ | exact hTa _ | exact hRo _) (by first | assumption | exact b01_r | exact bz_r | omega | (constructor <;> omega) | exact hM _ | exact hPo _ | exact hTa _ | exact hRo _) (by first | assumption | exact b01_r | exact bz_r | omega | (constructor <;> omega) | exact hM _ | exact hPo _ | exact hTa _ | exact hRo _) (by omega) ?_
        rw [q1]
        refine r_istore_n (pc := 34) dX11_closes_34 (Nat.le_of_ble_eq_true rfl) ?_
        dsimp only [lsSt, List.set, mLs, mEnt]
        refine r_aload_n (pc := 35) dX11_closes_35 rfl (by first | rfl | exact isRefV_rf _) ?_
        refine rm_getf (pc := 36) dX11_closes_36 fX11_11 (by assumption) rfl ?_
        refine r_iload_n (pc := 39) dX11_closes_39 rfl ?_
        refine rj_iconst (pc := 40) dX11_closes_40 ?_
        refine rj_iconst (pc := 41) dX11_closes_41 ?_
        refine r_callS3 (pc := 42) dX11_closes_42 qX11_ofThing kX11_54 sX11_ofThing (Nat.le_of_ble_eq_true rfl) (m_ofThing _) (fun v_42 h_42 q_42 => ?_)
        obtain ⟨rfl, rfl⟩ := q_42
        refine rj_iald (pc := 45) (j := 263 + 14 * t) dX11_closes_45 (by first | exact isM.g0 (by assumption) | exact isM.g3 (by assumption) | exact isM.g4 (by assumption) | exact isM.g8 (by assumption) | exact isM.g7 (by assumption) | exact isM.g6 (by assumption) | exact isM.g5 (by assumption) | exact isM.g1 (by assumption) | exact isM.g2 (by assumption)) (by first | assumption | exact b01_r | exact bz_r | omega | (constructor <;> omega) | exact hM _ | exact hPo _ | exact hTa _ | exact hRo _) (by first | assumption | exact b01_r | exact bz_r | omega | (constructor <;> omega) | exact hM _ | exact hPo _ | exact hTa _ | exact hRo _) (by first | assumption | exact b01_r | exact bz_r | omega | (constructor <;> omega) | exact hM _ | exact hPo _ | exact hTa _ | exact hRo _) (by omega) ?_
        rw [q2]
        refine r_istore (pc := 46) dX11_closes_46 (Nat.le_of_ble_eq_true rfl) ?_
        dsimp only [lsSt, List.set, mLs, mEnt]
        exact (L_closes (D := 3 * N + 6) (by omega) hPo hs ih ht hE2 hf ⟨n2.1, g2⟩ ⟨n4.1, g4⟩ ⟨n5.1, g5⟩ k _ p _ hB_20 (by omega) hL).mono (fun v h' q => ⟨q.1, q.2.1, hS_20.trans q.2.2⟩)
      · try simp only [b01_0, bz_0, Classical.not_not] at c_5
        exact absurd hh c_5
end mg_69

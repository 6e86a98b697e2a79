section mg_71
set_option maxHeartbeats 4000000 in
set_option maxRecDepth 100000 in
theorem m_tick {G : mG} {l : Launch} {x s : Nat} {f4 f6 f8 f9 f10 f11 f12 f13 f14 f16 f18 : Int} {kp was pool tape pln pap rwd rw : Nat → Int} (hPo : ∀ q, InR (pool q)) {m m' : Nat → Int} {h : mH} (hB : isM h x (mFs x f4 f6 f8 f9 f10 f11 f12 f13 f14 f16 f18 s) m kp was pool tape pln pap rwd rw) (hR : tickR pool m m') : RUNM G l 400 mX11_tick [.ref x] h (fun v h' => v = some (.int (J (nextV m))) ∧ isM h' x (mFs x f4 f6 f8 f9 f10 f11 f12 f13 (sinkV m f14) f16 f18 s) m' kp was pool tape pln pap rwd rw ∧ Same (mBlk x) h h') := by
  obtain ⟨hok, hP, hR⟩ := hR
  obtain ⟨hM, k0, k1, k2, k3, k4, k5, k7⟩ := id hok
  have rn := nextV_r hok
  have hB0 := hB
  dsimp only [mFs] at hB
  have fx := m_next (G := G) (l := l) 0 hB0 hM (N := (m 3).toNat) (by omega) (by omega) (fun t ht => hP t (by omega))
  rw [show nxL m (m 3).toNat 0 (-5) = nextV m from rfl] at fx
  refine RUNM.of (by decide +kernel) (Nat.le_of_ble_eq_true rfl) ?_
  rcases hR with ⟨hn, rfl⟩ | ⟨hn, hR⟩
  · rw [show sinkV m' f14 = f14 from if_neg (by omega)]
    refine r_aload_n (pc := 0) dX11_tick_0 rfl (by first | rfl | exact isRefV_rf _) ?_
    refine r_callV0 (pc := 1) dX11_tick_1 qX11_next kX11_205 vX11_next (by exact isM.gx (by assumption)) rfl rfl (Nat.le_of_ble_eq_true rfl) (fx.deeper (by omega)) (fun v_1 h_1 q_1 => ?_)
    obtain ⟨rfl, rfl⟩ := q_1
    refine r_istore_n (pc := 4) dX11_tick_4 (Nat.le_of_ble_eq_true rfl) ?_
    dsimp only [lsSt, List.set, mLs, mEnt]
    refine r_iload_n (pc := 5) dX11_tick_5 rfl ?_
    refine rj_if_lt (pc := 6) (tgt := 14) dX11_tick_6 (by decide) (by first | assumption | exact b01_r | exact bz_r | omega | (constructor <;> omega) | exact hM _ | exact hPo _ | exact hTa _ | exact hRo _) (fun c_6 => ?_) (fun c_6 => ?_)
    · refine r_iload_n (pc := 14) dX11_tick_14 rfl ?_
      refine r_ireturn (pc := 15) .int dX11_tick_15 rfl (by first | rfl | assumption) ?_
      exact ⟨rfl, hB0, Same.refl⟩
    · exfalso; omega
  · rw [show sinkV m f14 = nextV m from if_pos hn]
    have ht : (((nextV m).toNat : Nat) : Int) = nextV m := by omega
    refine r_aload_n (pc := 0) dX11_tick_0 rfl (by first | rfl | exact isRefV_rf _) ?_
    refine r_callV0 (pc := 1) dX11_tick_1 qX11_next kX11_205 vX11_next (by exact isM.gx (by assumption)) rfl rfl (Nat.le_of_ble_eq_true rfl) (fx.deeper (by omega)) (fun v_1 h_1 q_1 => ?_)
    obtain ⟨rfl, rfl⟩ := q_1
    refine r_istore_n (pc := 4) dX11_tick_4 (Nat.le_of_ble_eq_true rfl) ?_
    dsimp only [lsSt, List.set, mLs, mEnt]
    refine r_iload_n (pc := 5) dX11_tick_5 rfl ?_
    refine rj_if_lt (pc := 6) (tgt := 14) dX11_tick_6 (by decide) (by first | assumption | exact b01_r | exact bz_r | omega | (constructor <;> omega) | exact hM _ | exact hPo _ | exact hTa _ | exact hRo _) (fun c_6 => ?_) (fun c_6 => ?_)
    · exfalso; omega
    · refine r_aload_n (pc := 9) dX11_tick_9 rfl (by first | rfl | exact isRefV_rf _) ?_
      refine r_iload_n (pc := 10) dX11_tick_10 rfl ?_
      refine r_callV1 (pc := 11) dX11_tick_11 qX11_turn kX11_208 vX11_turn (by exact isM.gx (by assumption)) rfl rfl (Nat.le_of_ble_eq_true rfl) (by have y := m_turn (G := G) (l := l) (D := 380) (by omega) (t := (nextV m).toNat) hPo (fun m1 m2 t h z1 z2 => by rw [ht] at z1 ⊢; exact (m_closes hPo ⟨by omega, by omega⟩ 91 m1 m2 t h z1 z2).deeper (by omega)) (fun m1 m2 e h z1 z2 => by rw [ht] at z1 ⊢; exact (m_shuts hPo ⟨by omega, by omega⟩ 61 m1 m2 e h z1 z2).deeper (by omega)) hB0 hR; rw [ht] at y; exact y.deeper (by omega)) (fun v_11 h_11 q_11 => ?_)
      obtain ⟨rfl, hB_11, S_11⟩ := q_11
      refine r_iload_n (pc := 14) dX11_tick_14 rfl ?_
      refine r_ireturn (pc := 15) .int dX11_tick_15 rfl (by first | rfl | assumption) ?_
      exact ⟨rfl, hB_11, S_11⟩
end mg_71

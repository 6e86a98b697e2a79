section mg_73
set_option maxHeartbeats 4000000 in
set_option maxRecDepth 100000 in
theorem L_byName {G : mG} {l : Launch} (d : Nat) {h : mH} {x s : Nat} {f4 f6 f8 f9 f10 f11 f12 f13 f14 f16 f18 : Int} {m kp was pool tape pln pap rwd rw : Nat → Int}(hB : isM h x (mFs x f4 f6 f8 f9 f10 f11 f12 f13 f14 f16 f18 s) m kp was pool tape pln pap rwd rw) (hok : mOk m) {N : Nat} (hN : m 1 = (N : Int)) (hnm : ∀ t : Nat, t < N → (0 ≤ m (261 + 14 * t) ∧ m (261 + 14 * t) ≤ 7) ∧ ∀ k : Nat, k < 7 → -200 ≤ m (265 + 14 * t + k) ∧ m (265 + 14 * t + k) ≤ 200) {i : Int} (hi : InR i) : ∀ (n t : Nat) (v3 v4 : Option Value), t + n = N → RUN G l (d + 3) mX11_byName 2 [some (.ref x), some (.int (J i)), some (.int (J (t : Int))), v3, v4] [] h (fun v h' => v = some (.int (J (bnL m N i n t))) ∧ h' = h) := by
  obtain ⟨hM, k0, k1, k2, k3, k4, k5, k7⟩ := id hok
  intro n
  induction n with
  | zero =>
    intro t v3 v4 ht
    have hB0 := hB
    dsimp only [mFs] at hB
    refine r_iload_n (pc := 2) dX11_byName_2 rfl ?_
    refine r_aload_n (pc := 3) dX11_byName_3 rfl (by first | rfl | exact isRefV_rf _) ?_
    refine rm_getf (pc := 4) dX11_byName_4 fX11_11 (by assumption) rfl ?_
    refine rj_iconst (pc := 7) dX11_byName_7 ?_
    refine rj_iald (pc := 8) (j := 1) dX11_byName_8 (by first | exact isM.g0 (by assumption) | exact isM.g3 (by assumption) | exact isM.g4 (by assumption) | exact isM.g8 (by assumption) | exact isM.g7 (by assumption) | exact isM.g6 (by assumption) | exact isM.g5 (by assumption) | exact isM.g1 (by assumption) | exact isM.g2 (by assumption)) (by first | assumption | exact b01_r | exact bz_r | omega | (constructor <;> omega) | exact hM _ | exact hPo _ | exact hTa _ | exact hRo _) (by first | assumption | exact b01_r | exact bz_r | omega | (constructor <;> omega) | exact hM _ | exact hPo _ | exact hTa _ | exact hRo _) (by first | assumption | exact b01_r | exact bz_r | omega | (constructor <;> omega) | exact hM _ | exact hPo _ | exact hTa _ | exact hRo _) (by omega) ?_
    refine rj_icmp_ge (pc := 9) (tgt := 82) dX11_byName_9 (by decide) (by first | assumption | exact b01_r | exact bz_r | omega | (constructor <;> omega) | exact hM _ | exact hPo _ | exact hTa _ | exact hRo _) (by first | assumption | exact b01_r | exact bz_r | omega | (constructor <;> omega) | exact hM _ | exact hPo _ | exact hTa _ | exact hRo _) (fun c_9 => ?_) (fun c_9 => ?_)
    · refine rj_iconst (pc := 82) dX11_byName_82 ?_
      refine r_ireturn (pc := 83) .int dX11_byName_83 rfl (by first | rfl | assumption) ?_
      exact ⟨rfl, rfl⟩
    · exfalso; omega
  | succ n ih =>
    intro t v3 v4 ht
    have hB0 := hB
    have rc := cnt_r (nmB m t) N
    dsimp only [mFs] at hB
    refine r_iload_n (pc := 2) dX11_byName_2 rfl ?_
    refine r_aload_n (pc := 3) dX11_byName_3 rfl (by first | rfl | exact isRefV_rf _) ?_
    refine rm_getf (pc := 4) dX11_byName_4 fX11_11 (by assumption) rfl ?_
    refine rj_iconst (pc := 7) dX11_byName_7 ?_
    refine rj_iald (pc := 8) (j := 1) dX11_byName_8 (by first | exact isM.g0 (by assumption) | exact isM.g3 (by assumption) | exact isM.g4 (by assumption) | exact isM.g8 (by assumption) | exact isM.g7 (by assumption) | exact isM.g6 (by assumption) | exact isM.g5 (by assumption) | exact isM.g1 (by assumption) | exact isM.g2 (by assumption)) (by first | assumption | exact b01_r | exact bz_r | omega | (constructor <;> omega) | exact hM _ | exact hPo _ | exact hTa _ | exact hRo _) (by first | assumption | exact b01_r | exact bz_r | omega | (constructor <;> omega) | exact hM _ | exact hPo _ | exact hTa _ | exact hRo _) (by first | assumption | exact b01_r | exact bz_r | omega | (constructor <;> omega) | exact hM _ | exact hPo _ | exact hTa _ | exact hRo _) (by omega) ?_
    refine rj_icmp_ge (pc := 9) (tgt := 82) dX11_byName_9 (by decide) (by first | assumption | exact b01_r | exact bz_r | omega | (constructor <;> omega) | exact hM _ | exact hPo _ | exact hTa _ | exact hRo _) (by first | assumption | exact b01_r | exact bz_r | omega | (constructor <;> omega) | exact hM _ | exact hPo _ | exact hTa _ | exact hRo _) (fun c_9 => ?_) (fun c_9 => ?_)
    · exfalso; omega
    · refine rj_iconst (pc := 12) dX11_byName_12 ?_
      refine r_istore_n (pc := 13) dX11_byName_13 (Nat.le_of_ble_eq_true rfl) ?_
      dsimp only [lsSt, List.set, mLs, mEnt]
      refine rj_iconst (pc := 14) dX11_byName_14 ?_
      refine r_istore (pc := 15) dX11_byName_15 (Nat.le_of_ble_eq_true rfl) ?_
      dsimp only [lsSt, List.set, mLs, mEnt]
      refine L_byName2 d hB0 hok hN hnm (by omega) ?_ N 0 (by omega)
      refine r_aload_n (pc := 61) dX11_byName_61 rfl (by first | rfl | exact isRefV_rf _) ?_
      refine r_iload_n (pc := 62) dX11_byName_62 rfl ?_
      refine r_callV1 (pc := 63) dX11_byName_63 qX11_isHeld kX11_119 vX11_isHeld (by exact isM.gx (by assumption)) rfl rfl (Nat.le_of_ble_eq_true rfl) (m_isHeld (d + 1) hB0 hM (by omega) (by omega)) (fun v_63 h_63 q_63 => ?_)
      obtain ⟨rfl, rfl⟩ := q_63
      refine rj_if_eq (pc := 66) (tgt := 76) dX11_byName_66 (by decide) (by first | assumption | exact b01_r | exact bz_r | omega | (constructor <;> omega) | exact hM _ | exact hPo _ | exact hTa _ | exact hRo _) (fun c_66 => ?_) (fun c_66 => ?_)
      · try simp only [b01_0, bz_0, Classical.not_not] at c_66
        refine rj_iinc (pc := 76) dX11_byName_76 (Nat.le_of_ble_eq_true rfl) rfl ?_
        dsimp only [lsSt, List.set, mLs, mEnt]
        refine r_goto (pc := 79) (tgt := 2) dX11_byName_79 (by decide) ?_
        rw [show ((t : Int) + 1) = ((t + 1 : Nat) : Int) by omega]
        rw [bnL, if_neg (fun g => c_66 (by have := g.1; simp only [heldB, decide_eq_true_eq] at this; rw [n_held]; exact this))]
        exact ih (t + 1) _ _ (by omega)
      · try simp only [b01_0, bz_0, Classical.not_not] at c_66
        refine r_iload_n (pc := 69) dX11_byName_69 rfl ?_
        refine r_iload_n (pc := 70) dX11_byName_70 rfl ?_
        refine rj_icmp_ne (pc := 71) (tgt := 76) dX11_byName_71 (by decide) (by first | assumption | exact b01_r | exact bz_r | omega | (constructor <;> omega) | exact hM _ | exact hPo _ | exact hTa _ | exact hRo _) (by first | assumption | exact b01_r | exact bz_r | omega | (constructor <;> omega) | exact hM _ | exact hPo _ | exact hTa _ | exact hRo _) (fun c_71 => ?_) (fun c_71 => ?_)
        · refine rj_iinc (pc := 76) dX11_byName_76 (Nat.le_of_ble_eq_true rfl) rfl ?_
          dsimp only [lsSt, List.set, mLs, mEnt]
          refine r_goto (pc := 79) (tgt := 2) dX11_byName_79 (by decide) ?_
          rw [show ((t : Int) + 1) = ((t + 1 : Nat) : Int) by omega]
          rw [bnL, if_neg (fun g => c_71 g.2)]
          exact ih (t + 1) _ _ (by omega)
        · refine r_iload_n (pc := 74) dX11_byName_74 rfl ?_
          refine r_ireturn (pc := 75) .int dX11_byName_75 rfl (by first | rfl | assumption) ?_
          exact ⟨by rw [bnL, if_pos ⟨by simp only [heldB, decide_eq_true_eq]; rw [n_held] at c_66; exact c_66, c_71⟩], rfl⟩
end mg_73

section mg_29
set_option maxHeartbeats 4000000 in
set_option maxRecDepth 100000 in
theorem L_heldBy {G : mG} {l : Launch} (d : Nat) {h : mH} {x s : Nat} {f4 f6 f8 f9 f10 f11 f12 f13 f14 f16 f18 : Int} {m kp was pool tape pln pap rwd rw : Nat → Int}(hB : isM h x (mFs x f4 f6 f8 f9 f10 f11 f12 f13 f14 f16 f18 s) m kp was pool tape pln pap rwd rw) (hM : ∀ q, InR (m q)) {rs : Nat} {rc : Nat → Int} {fr to : Nat} (hR : rowOk rs rc pool tape to) (hft : fr ≤ to) (hRo : ∀ q, InR (rc q)) {N : Nat} (hN : m 1 = (N : Int)) (hcap : N ≤ 90) (h7 : ∀ t, t < N → m (261 + 14 * t) ≤ 7) : ∀ n t : Nat, t + n = N → RUN G l (d + 3) mX11_heldBy 3 [some (.ref x), some (.ref (mAd x rs)), some (.int (J (fr : Int))), some (.int (J (to : Int))), some (.int (J (t : Int)))] [] h (fun v h' => v = some (.int (J (hbL m rc fr to n t))) ∧ h' = h) := by
  dsimp only [mFs] at hB
  have r1 := hM 1
  intro n
  induction n with
  | zero =>
    intro t ht
    refine r_iload (pc := 3) dX11_heldBy_3 rfl ?_
    refine r_aload_n (pc := 5) dX11_heldBy_5 rfl (by first | rfl | exact isRefV_rf _) ?_
    refine rm_getf (pc := 6) dX11_heldBy_6 fX11_11 (by assumption) rfl ?_
    refine rj_iconst (pc := 9) dX11_heldBy_9 ?_
    refine rj_iald (pc := 10) (j := 1) dX11_heldBy_10 (by first | exact isM.g0 (by assumption) | exact isM.g3 (by assumption) | exact isM.g4 (by assumption) | exact isM.g8 (by assumption) | exact isM.g7 (by assumption) | exact isM.g6 (by assumption) | exact isM.g5 (by assumption) | exact isM.g1 (by assumption) | exact isM.g2 (by assumption)) (by first | assumption | exact b01_r | exact bz_r | omega | (constructor <;> omega) | exact hM _ | exact hPo _ | exact hTa _ | exact hRo _) (by first | assumption | exact b01_r | exact bz_r | omega | (constructor <;> omega) | exact hM _ | exact hPo _ | exact hTa _ | exact hRo _) (by first | assumption | exact b01_r | exact bz_r | omega | (constructor <;> omega) | exact hM _ | exact hPo _ | exact hTa _ | exact hRo _) rfl ?_
    refine rj_icmp_ge (pc := 11) (tgt := 44) dX11_heldBy_11 (by decide) (by first | assumption | exact b01_r | exact bz_r | omega | (constructor <;> omega) | exact hM _ | exact hPo _ | exact hTa _ | exact hRo _) (by first | assumption | exact b01_r | exact bz_r | omega | (constructor <;> omega) | exact hM _ | exact hPo _ | exact hTa _ | exact hRo _) (fun c_11 => ?_) (fun c_11 => ?_)
    · refine rj_bipush (pc := 44) dX11_heldBy_44 (by decide +kernel) ?_
      refine r_ireturn (pc := 46) .int dX11_heldBy_46 rfl (by first | rfl | assumption) ?_
      exact ⟨rfl, rfl⟩
    · exfalso; omega
  | succ n ih =>
    intro t ht
    refine r_iload (pc := 3) dX11_heldBy_3 rfl ?_
    refine r_aload_n (pc := 5) dX11_heldBy_5 rfl (by first | rfl | exact isRefV_rf _) ?_
    refine rm_getf (pc := 6) dX11_heldBy_6 fX11_11 (by assumption) rfl ?_
    refine rj_iconst (pc := 9) dX11_heldBy_9 ?_
    refine rj_iald (pc := 10) (j := 1) dX11_heldBy_10 (by first | exact isM.g0 (by assumption) | exact isM.g3 (by assumption) | exact isM.g4 (by assumption) | exact isM.g8 (by assumption) | exact isM.g7 (by assumption) | exact isM.g6 (by assumption) | exact isM.g5 (by assumption) | exact isM.g1 (by assumption) | exact isM.g2 (by assumption)) (by first | assumption | exact b01_r | exact bz_r | omega | (constructor <;> omega) | exact hM _ | exact hPo _ | exact hTa _ | exact hRo _) (by first | assumption | exact b01_r | exact bz_r | omega | (constructor <;> omega) | exact hM _ | exact hPo _ | exact hTa _ | exact hRo _) (by first | assumption | exact b01_r | exact bz_r | omega | (constructor <;> omega) | exact hM _ | exact hPo _ | exact hTa _ | exact hRo _) rfl ?_
    refine rj_icmp_ge (pc := 11) (tgt := 44) dX11_heldBy_11 (by decide) (by first | assumption | exact b01_r | exact bz_r | omega | (constructor <;> omega) | exact hM _ | exact hPo _ | exact hTa _ | exact hRo _) (by first | assumption | exact b01_r | exact bz_r | omega | (constructor <;> omega) | exact hM _ | exact hPo _ | exact hTa _ | exact hRo _) (fun c_11 => ?_) (fun c_11 => ?_)
    · refine rj_bipush (pc := 44) dX11_heldBy_44 (by decide +kernel) ?_
      refine r_ireturn (pc := 46) .int dX11_heldBy_46 rfl (by first | rfl | assumption) ?_
      exfalso; omega
    · refine r_aload_n (pc := 14) dX11_heldBy_14 rfl (by first | rfl | exact isRefV_rf _) ?_
      refine r_iload (pc := 15) dX11_heldBy_15 rfl ?_
      refine r_callV1 (pc := 17) dX11_heldBy_17 qX11_isHeld kX11_119 vX11_isHeld (by exact isM.gx (by assumption)) rfl rfl (Nat.le_of_ble_eq_true rfl) (m_isHeld (d + 1) hB hM (by omega) (by omega)) (fun v_17 h_17 q_17 => ?_)
      obtain ⟨rfl, rfl⟩ := q_17
      refine rj_if_eq (pc := 20) (tgt := 38) dX11_heldBy_20 (by decide) (by first | assumption | exact b01_r | exact bz_r | omega | (constructor <;> omega) | exact hM _ | exact hPo _ | exact hTa _ | exact hRo _) (fun c_20 => ?_) (fun c_20 => ?_)
      · try simp only [b01_0, bz_0, Classical.not_not] at c_20
        refine rj_iinc (pc := 38) dX11_heldBy_38 (Nat.le_of_ble_eq_true rfl) rfl ?_
        dsimp only [lsSt, List.set, mLs, mEnt]
        refine r_goto (pc := 41) (tgt := 3) dX11_heldBy_41 (by decide) ?_
        have z := ih (t + 1) (by omega)
        rw [hbL, if_neg (fun g => c_20 (by simpa [heldB, ← n_held] using g.1))]
        exact z
      · try simp only [b01_0, bz_0, Classical.not_not] at c_20
        refine r_aload_n (pc := 23) dX11_heldBy_23 rfl (by first | rfl | exact isRefV_rf _) ?_
        refine r_iload (pc := 24) dX11_heldBy_24 rfl ?_
        refine r_aload_n (pc := 26) dX11_heldBy_26 rfl (by first | rfl | exact isRefV_rf _) ?_
        refine r_iload_n (pc := 27) dX11_heldBy_27 rfl ?_
        refine r_iload_n (pc := 28) dX11_heldBy_28 rfl ?_
        refine r_callV4 (pc := 29) dX11_heldBy_29 qX11_isNamed kX11_122 vX11_isNamed (by exact isM.gx (by assumption)) rfl rfl (Nat.le_of_ble_eq_true rfl) (m_isNamed (d + 1) hB hM hR hft hRo (by omega) (h7 t (by omega))) (fun v_29 h_29 q_29 => ?_)
        obtain ⟨rfl, rfl⟩ := q_29
        refine rj_if_eq (pc := 32) (tgt := 38) dX11_heldBy_32 (by decide) (by first | assumption | exact b01_r | exact bz_r | omega | (constructor <;> omega) | exact hM _ | exact hPo _ | exact hTa _ | exact hRo _) (fun c_32 => ?_) (fun c_32 => ?_)
        · try simp only [b01_0, bz_0, Classical.not_not] at c_32
          refine rj_iinc (pc := 38) dX11_heldBy_38 (Nat.le_of_ble_eq_true rfl) rfl ?_
          dsimp only [lsSt, List.set, mLs, mEnt]
          refine r_goto (pc := 41) (tgt := 3) dX11_heldBy_41 (by decide) ?_
          have z := ih (t + 1) (by omega)
          rw [hbL, if_neg (fun g => c_32 g.2)]
          exact z
        · try simp only [b01_0, bz_0, Classical.not_not] at c_32
          refine r_iload (pc := 35) dX11_heldBy_35 rfl ?_
          refine r_ireturn (pc := 37) .int dX11_heldBy_37 rfl (by first | rfl | assumption) ?_
          exact ⟨by rw [hbL, if_pos ⟨by simpa [heldB, ← n_held] using c_20, c_32⟩], rfl⟩
end mg_29

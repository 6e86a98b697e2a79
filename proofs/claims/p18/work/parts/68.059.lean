section mg_73
set_option maxHeartbeats 4000000 in
set_option maxRecDepth 100000 in
theorem L_byName2 {G : mG} {l : Launch} (d : Nat) {h : mH} {x s : Nat} {f4 f6 f8 f9 f10 f11 f12 f13 f14 f16 f18 : Int} {m kp was pool tape pln pap rwd rw : Nat → Int}(hB : isM h x (mFs x f4 f6 f8 f9 f10 f11 f12 f13 f14 f16 f18 s) m kp was pool tape pln pap rwd rw) (hok : mOk m) {N : Nat} (hN : m 1 = (N : Int)) (hnm : ∀ t : Nat, t < N → (0 ≤ m (261 + 14 * t) ∧ m (261 + 14 * t) ≤ 7) ∧ ∀ k : Nat, k < 7 → -200 ≤ m (265 + 14 * t + k) ∧ m (265 + 14 * t + k) ≤ 200) {i : Int} {t : Nat} (ht : t < N) {Q : Option Value → mH → Prop} (K : RUN G l (d + 3) mX11_byName 61 [some (.ref x), some (.int (J i)), some (.int (J (t : Int))), some (.int (J (cnt (nmB m t) N))), some (.int (J (N : Int)))] [] h Q) : ∀ (n o : Nat), o + n = N → RUN G l (d + 3) mX11_byName 17 [some (.ref x), some (.int (J i)), some (.int (J (t : Int))), some (.int (J (cnt (nmB m t) o))), some (.int (J (o : Int)))] [] h Q := by
  obtain ⟨hM, k0, k1, k2, k3, k4, k5, k7⟩ := id hok
  intro n
  induction n with
  | zero =>
    intro o ho
    have hB0 := hB
    dsimp only [mFs] at hB
    obtain rfl : o = N := by omega
    refine r_iload (pc := 17) dX11_byName_17 rfl ?_
    refine r_aload_n (pc := 19) dX11_byName_19 rfl (by first | rfl | exact isRefV_rf _) ?_
    refine rm_getf (pc := 20) dX11_byName_20 fX11_11 (by assumption) rfl ?_
    refine rj_iconst (pc := 23) dX11_byName_23 ?_
    refine rj_iald (pc := 24) (j := 1) dX11_byName_24 (by first | exact isM.g0 (by assumption) | exact isM.g3 (by assumption) | exact isM.g4 (by assumption) | exact isM.g8 (by assumption) | exact isM.g7 (by assumption) | exact isM.g6 (by assumption) | exact isM.g5 (by assumption) | exact isM.g1 (by assumption) | exact isM.g2 (by assumption)) (by first | assumption | exact b01_r | exact bz_r | omega | (constructor <;> omega) | exact hM _ | exact hPo _ | exact hTa _ | exact hRo _) (by first | assumption | exact b01_r | exact bz_r | omega | (constructor <;> omega) | exact hM _ | exact hPo _ | exact hTa _ | exact hRo _) (by first | assumption | exact b01_r | exact bz_r | omega | (constructor <;> omega) | exact hM _ | exact hPo _ | exact hTa _ | exact hRo _) (by omega) ?_
    refine rj_icmp_ge (pc := 25) (tgt := 61) dX11_byName_25 (by decide) (by first | assumption | exact b01_r | exact bz_r | omega | (constructor <;> omega) | exact hM _ | exact hPo _ | exact hTa _ | exact hRo _) (by first | assumption | exact b01_r | exact bz_r | omega | (constructor <;> omega) | exact hM _ | exact hPo _ | exact hTa _ | exact hRo _) (fun c_25 => ?_) (fun c_25 => ?_)
    · exact K
    · exfalso; omega
  | succ n ih =>
    intro o ho
    have hB0 := hB
    have rt := agT_r hnm (t := o) (o := t) (by omega) ht
    have rc := cnt_r (nmB m t) o
    dsimp only [mFs] at hB
    refine r_iload (pc := 17) dX11_byName_17 rfl ?_
    refine r_aload_n (pc := 19) dX11_byName_19 rfl (by first | rfl | exact isRefV_rf _) ?_
    refine rm_getf (pc := 20) dX11_byName_20 fX11_11 (by assumption) rfl ?_
    refine rj_iconst (pc := 23) dX11_byName_23 ?_
    refine rj_iald (pc := 24) (j := 1) dX11_byName_24 (by first | exact isM.g0 (by assumption) | exact isM.g3 (by assumption) | exact isM.g4 (by assumption) | exact isM.g8 (by assumption) | exact isM.g7 (by assumption) | exact isM.g6 (by assumption) | exact isM.g5 (by assumption) | exact isM.g1 (by assumption) | exact isM.g2 (by assumption)) (by first | assumption | exact b01_r | exact bz_r | omega | (constructor <;> omega) | exact hM _ | exact hPo _ | exact hTa _ | exact hRo _) (by first | assumption | exact b01_r | exact bz_r | omega | (constructor <;> omega) | exact hM _ | exact hPo _ | exact hTa _ | exact hRo _) (by first | assumption | exact b01_r | exact bz_r | omega | (constructor <;> omega) | exact hM _ | exact hPo _ | exact hTa _ | exact hRo _) (by omega) ?_
    refine rj_icmp_ge (pc := 25) (tgt := 61) dX11_byName_25 (by decide) (by first | assumption | exact b01_r | exact bz_r | omega | (constructor <;> omega) | exact hM _ | exact hPo _ | exact hTa _ | exact hRo _) (by first | assumption | exact b01_r | exact bz_r | omega | (constructor <;> omega) | exact hM _ | exact hPo _ | exact hTa _ | exact hRo _) (fun c_25 => ?_) (fun c_25 => ?_)
    · exfalso; omega
    · refine r_iload_n (pc := 28) dX11_byName_28 rfl ?_
      refine r_aload_n (pc := 29) dX11_byName_29 rfl (by first | rfl | exact isRefV_rf _) ?_
      refine r_iload (pc := 30) dX11_byName_30 rfl ?_
      refine r_callV1 (pc := 32) dX11_byName_32 qX11_isHeld kX11_119 vX11_isHeld (by exact isM.gx (by assumption)) rfl rfl (Nat.le_of_ble_eq_true rfl) (m_isHeld (d + 1) hB0 hM (by omega) (by omega)) (fun v_32 h_32 q_32 => ?_)
      obtain ⟨rfl, rfl⟩ := q_32
      refine rj_if_eq (pc := 35) (tgt := 52) dX11_byName_35 (by decide) (by first | assumption | exact b01_r | exact bz_r | omega | (constructor <;> omega) | exact hM _ | exact hPo _ | exact hTa _ | exact hRo _) (fun c_35 => ?_) (fun c_35 => ?_)
      · try simp only [b01_0, bz_0, Classical.not_not] at c_35
        refine rj_iconst (pc := 52) dX11_byName_52 ?_
        refine rj_iadd (pc := 53) dX11_byName_53 ?_
        refine r_istore_n (pc := 54) dX11_byName_54 (Nat.le_of_ble_eq_true rfl) ?_
        dsimp only [lsSt, List.set, mLs, mEnt]
        refine rj_iinc (pc := 55) dX11_byName_55 (Nat.le_of_ble_eq_true rfl) rfl ?_
        dsimp only [lsSt, List.set, mLs, mEnt]
        refine r_goto (pc := 58) (tgt := 17) dX11_byName_58 (by decide) ?_
        have z := ih (o + 1) (by omega)
        rw [show ((o + 1 : Nat) : Int) = (o : Int) + 1 by omega] at z
        rw [← (cnt_f (p := nmB m t) (n := o) (by simp only [nmB, heldB]; rw [show decide (m (258 + 14 * o) = 0) = false from decide_eq_false (by rw [n_held] at c_35; exact c_35)]; rfl))] at z
        exact z
      · try simp only [b01_0, bz_0, Classical.not_not] at c_35
        refine r_aload_n (pc := 38) dX11_byName_38 rfl (by first | rfl | exact isRefV_rf _) ?_
        refine r_iload (pc := 39) dX11_byName_39 rfl ?_
        refine r_iload_n (pc := 41) dX11_byName_41 rfl ?_
        refine r_callV2 (pc := 42) dX11_byName_42 qX11_against_ kX11_268 vX11_against_ (by exact isM.gx (by assumption)) rfl rfl (Nat.le_of_ble_eq_true rfl) (m_against2 d hB0 hok hN hnm (t := o) (o := t) (by omega) ht) (fun v_42 h_42 q_42 => ?_)
        obtain ⟨rfl, rfl⟩ := q_42
        refine rj_if_ge (pc := 45) (tgt := 52) dX11_byName_45 (by decide) (by first | assumption | exact b01_r | exact bz_r | omega | (constructor <;> omega) | exact hM _ | exact hPo _ | exact hTa _ | exact hRo _) (fun c_45 => ?_) (fun c_45 => ?_)
        · refine rj_iconst (pc := 52) dX11_byName_52 ?_
          refine rj_iadd (pc := 53) dX11_byName_53 ?_
          refine r_istore_n (pc := 54) dX11_byName_54 (Nat.le_of_ble_eq_true rfl) ?_
          dsimp only [lsSt, List.set, mLs, mEnt]
          refine rj_iinc (pc := 55) dX11_byName_55 (Nat.le_of_ble_eq_true rfl) rfl ?_
          dsimp only [lsSt, List.set, mLs, mEnt]
          refine r_goto (pc := 58) (tgt := 17) dX11_byName_58 (by decide) ?_
          have z := ih (o + 1) (by omega)
          rw [show ((o + 1 : Nat) : Int) = (o : Int) + 1 by omega] at z
          rw [← (cnt_f (p := nmB m t) (n := o) (by simp only [nmB]; rw [show decide (agT m o t < 0) = false from decide_eq_false (by omega)]; exact Bool.and_false _))] at z
          exact z
        · refine rj_iconst (pc := 48) dX11_byName_48 ?_
          refine r_goto (pc := 49) (tgt := 53) dX11_byName_49 (by decide) ?_
          refine rj_iadd (pc := 53) dX11_byName_53 ?_
          refine r_istore_n (pc := 54) dX11_byName_54 (Nat.le_of_ble_eq_true rfl) ?_
          dsimp only [lsSt, List.set, mLs, mEnt]
          refine rj_iinc (pc := 55) dX11_byName_55 (Nat.le_of_ble_eq_true rfl) rfl ?_
          dsimp only [lsSt, List.set, mLs, mEnt]
          refine r_goto (pc := 58) (tgt := 17) dX11_byName_58 (by decide) ?_
          have z := ih (o + 1) (by omega)
          rw [show ((o + 1 : Nat) : Int) = (o : Int) + 1 by omega] at z
          rw [← (cnt_t (p := nmB m t) (n := o) (by simp only [nmB, heldB]; rw [show decide (m (258 + 14 * o) = 0) = true from decide_eq_true (by rw [n_held] at c_35; exact c_35), show decide (agT m o t < 0) = true from decide_eq_true (by omega)]; rfl))] at z
          exact z
end mg_73

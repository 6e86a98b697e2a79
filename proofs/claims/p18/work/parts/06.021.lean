section mg_22
set_option maxHeartbeats 4000000 in
set_option maxRecDepth 100000 in
theorem L_entT {G : mG} {l : Launch} (d : Nat) {h : mH} {x s : Nat} {f4 f6 f8 f9 f10 f11 f12 f13 f14 f16 f18 : Int} {m kp was pool tape pln pap rwd rw : Nat → Int}(hB : isM h x (mFs x f4 f6 f8 f9 f10 f11 f12 f13 f14 f16 f18 s) m kp was pool tape pln pap rwd rw) (hM : ∀ q, InR (m q)) {N C : Nat} (hN : m 1 = (N : Int)) (hcap : N ≤ 90) (hC : m 0 = (C : Int)) (hC1 : 1 ≤ C) (hC2 : C ≤ 60) {a : Int} (ha : InR a) : ∀ k t : Nat, t + k = N → RUN G l (d + 2) mX11_entries 4 [some (.ref x), some (.int (J a)), some (.int (J (cnt (entTB m a) t))), some (.int (J (t : Int)))] [] h (fun v h' => v = some (.int (J (entsN m a N C))) ∧ h' = h) := by
  dsimp only [mFs] at hB
  have rN := hM 1
  have r0 := hM 0
  intro k
  induction k with
  | zero =>
    intro t ht
    refine r_iload_n (pc := 4) dX11_entries_4 rfl ?_
    refine r_aload_n (pc := 5) dX11_entries_5 rfl (by first | rfl | exact isRefV_rf _) ?_
    refine rm_getf (pc := 6) dX11_entries_6 fX11_11 (by assumption) rfl ?_
    refine rj_iconst (pc := 9) dX11_entries_9 ?_
    refine rj_iald (pc := 10) (j := 1) dX11_entries_10 (by first | exact isM.g0 (by assumption) | exact isM.g3 (by assumption) | exact isM.g4 (by assumption) | exact isM.g8 (by assumption) | exact isM.g7 (by assumption) | exact isM.g6 (by assumption) | exact isM.g5 (by assumption) | exact isM.g1 (by assumption) | exact isM.g2 (by assumption)) (by first | assumption | exact b01_r | exact bz_r | omega | (constructor <;> omega) | exact hM _ | exact hPo _ | exact hTa _ | exact hRo _) (by first | assumption | exact b01_r | exact bz_r | omega | (constructor <;> omega) | exact hM _ | exact hPo _ | exact hTa _ | exact hRo _) (by first | assumption | exact b01_r | exact bz_r | omega | (constructor <;> omega) | exact hM _ | exact hPo _ | exact hTa _ | exact hRo _) rfl ?_
    refine rj_icmp_ge (pc := 11) (tgt := 51) dX11_entries_11 (by decide) (by first | assumption | exact b01_r | exact bz_r | omega | (constructor <;> omega) | exact hM _ | exact hPo _ | exact hTa _ | exact hRo _) (by first | assumption | exact b01_r | exact bz_r | omega | (constructor <;> omega) | exact hM _ | exact hPo _ | exact hTa _ | exact hRo _) (fun c_11 => ?_) (fun c_11 => ?_)
    · refine rj_iconst (pc := 51) dX11_entries_51 ?_
      refine r_istore_n (pc := 52) dX11_entries_52 (Nat.le_of_ble_eq_true rfl) ?_
      dsimp only [lsSt, List.set, mLs, mEnt]
      have e : t = N := by omega
      subst e
      have z := L_entS (G := G) (l := l) d hB hM hN hcap hC hC1 hC2 ha (C - 1) 1 (by omega) (Nat.le_refl _)
      rw [cnt_1, Int.add_zero] at z
      exact z
    · refine r_iload_n (pc := 14) dX11_entries_14 rfl ?_
      refine r_aload_n (pc := 15) dX11_entries_15 rfl (by first | rfl | exact isRefV_rf _) ?_
      refine r_iload_n (pc := 16) dX11_entries_16 rfl ?_
      refine r_callV1 (pc := 17) dX11_entries_17 qX11_isHeld kX11_119 vX11_isHeld (by exact isM.gx (by assumption)) rfl rfl (Nat.le_of_ble_eq_true rfl) (m_isHeld d hB hM (by omega) (by omega)) (fun v_17 h_17 q_17 => ?_)
      obtain ⟨rfl, rfl⟩ := q_17
      refine rj_if_eq (pc := 20) (tgt := 42) dX11_entries_20 (by decide) (by first | assumption | exact b01_r | exact bz_r | omega | (constructor <;> omega) | exact hM _ | exact hPo _ | exact hTa _ | exact hRo _) (fun c_20 => ?_) (fun c_20 => ?_)
      · try simp only [b01_0, bz_0, Classical.not_not] at c_20
        refine rj_iconst (pc := 42) dX11_entries_42 ?_
        refine rj_iadd (pc := 43) dX11_entries_43 ?_
        refine r_istore_n (pc := 44) dX11_entries_44 (Nat.le_of_ble_eq_true rfl) ?_
        dsimp only [lsSt, List.set, mLs, mEnt]
        refine rj_iinc (pc := 45) dX11_entries_45 (Nat.le_of_ble_eq_true rfl) rfl ?_
        dsimp only [lsSt, List.set, mLs, mEnt]
        refine r_goto (pc := 48) (tgt := 4) dX11_entries_48 (by decide) ?_
        exfalso; omega
      · try simp only [b01_0, bz_0, Classical.not_not] at c_20
        refine r_aload_n (pc := 23) dX11_entries_23 rfl (by first | rfl | exact isRefV_rf _) ?_
        refine rm_getf (pc := 24) dX11_entries_24 fX11_11 (by assumption) rfl ?_
        refine r_iload_n (pc := 27) dX11_entries_27 rfl ?_
        refine rj_iconst (pc := 28) dX11_entries_28 ?_
        refine rj_iconst (pc := 29) dX11_entries_29 ?_
        refine r_callS3 (pc := 30) dX11_entries_30 qX11_ofThing kX11_54 sX11_ofThing (Nat.le_of_ble_eq_true rfl) (m_ofThing (d + 1)) (fun v_30 h_30 q_30 => ?_)
        obtain ⟨rfl, rfl⟩ := q_30
        refine rj_iald (pc := 33) dX11_entries_33 (by first | exact isM.g0 (by assumption) | exact isM.g3 (by assumption) | exact isM.g4 (by assumption) | exact isM.g8 (by assumption) | exact isM.g7 (by assumption) | exact isM.g6 (by assumption) | exact isM.g5 (by assumption) | exact isM.g1 (by assumption) | exact isM.g2 (by assumption)) (by first | assumption | exact b01_r | exact bz_r | omega | (constructor <;> omega) | exact hM _ | exact hPo _ | exact hTa _ | exact hRo _) (by first | assumption | exact b01_r | exact bz_r | omega | (constructor <;> omega) | exact hM _ | exact hPo _ | exact hTa _ | exact hRo _) (by first | assumption | exact b01_r | exact bz_r | omega | (constructor <;> omega) | exact hM _ | exact hPo _ | exact hTa _ | exact hRo _) rfl ?_
        refine r_iload_n (pc := 34) dX11_entries_34 rfl ?_
        refine rj_icmp_ne (pc := 35) (tgt := 42) dX11_entries_35 (by decide) (by first | assumption | exact b01_r | exact bz_r | omega | (constructor <;> omega) | exact hM _ | exact hPo _ | exact hTa _ | exact hRo _) (by first | assumption | exact b01_r | exact bz_r | omega | (constructor <;> omega) | exact hM _ | exact hPo _ | exact hTa _ | exact hRo _) (fun c_35 => ?_) (fun c_35 => ?_)
        · refine rj_iconst (pc := 42) dX11_entries_42 ?_
          refine rj_iadd (pc := 43) dX11_entries_43 ?_
          refine r_istore_n (pc := 44) dX11_entries_44 (Nat.le_of_ble_eq_true rfl) ?_
          dsimp only [lsSt, List.set, mLs, mEnt]
          refine rj_iinc (pc := 45) dX11_entries_45 (Nat.le_of_ble_eq_true rfl) rfl ?_
          dsimp only [lsSt, List.set, mLs, mEnt]
          refine r_goto (pc := 48) (tgt := 4) dX11_entries_48 (by decide) ?_
          exfalso; omega
        · refine rj_iconst (pc := 38) dX11_entries_38 ?_
          refine r_goto (pc := 39) (tgt := 43) dX11_entries_39 (by decide) ?_
          refine rj_iadd (pc := 43) dX11_entries_43 ?_
          refine r_istore_n (pc := 44) dX11_entries_44 (Nat.le_of_ble_eq_true rfl) ?_
          dsimp only [lsSt, List.set, mLs, mEnt]
          refine rj_iinc (pc := 45) dX11_entries_45 (Nat.le_of_ble_eq_true rfl) rfl ?_
          dsimp only [lsSt, List.set, mLs, mEnt]
          refine r_goto (pc := 48) (tgt := 4) dX11_entries_48 (by decide) ?_
          exfalso; omega
  | succ k ih =>
    intro t ht
    refine r_iload_n (pc := 4) dX11_entries_4 rfl ?_
    refine r_aload_n (pc := 5) dX11_entries_5 rfl (by first | rfl | exact isRefV_rf _) ?_
    refine rm_getf (pc := 6) dX11_entries_6 fX11_11 (by assumption) rfl ?_
    refine rj_iconst (pc := 9) dX11_entries_9 ?_
    refine rj_iald (pc := 10) (j := 1) dX11_entries_10 (by first | exact isM.g0 (by assumption) | exact isM.g3 (by assumption) | exact isM.g4 (by assumption) | exact isM.g8 (by assumption) | exact isM.g7 (by assumption) | exact isM.g6 (by assumption) | exact isM.g5 (by assumption) | exact isM.g1 (by assumption) | exact isM.g2 (by assumption)) (by first | assumption | exact b01_r | exact bz_r | omega | (constructor <;> omega) | exact hM _ | exact hPo _ | exact hTa _ | exact hRo _) (by first | assumption | exact b01_r | exact bz_r | omega | (constructor <;> omega) | exact hM _ | exact hPo _ | exact hTa _ | exact hRo _) (by first | assumption | exact b01_r | exact bz_r | omega | (constructor <;> omega) | exact hM _ | exact hPo _ | exact hTa _ | exact hRo _) rfl ?_
    refine rj_icmp_ge (pc := 11) (tgt := 51) dX11_entries_11 (by decide) (by first | assumption | exact b01_r | exact bz_r | omega | (constructor <;> omega) | exact hM _ | exact hPo _ | exact hTa _ | exact hRo _) (by first | assumption | exact b01_r | exact bz_r | omega | (constructor <;> omega) | exact hM _ | exact hPo _ | exact hTa _ | exact hRo _) (fun c_11 => ?_) (fun c_11 => ?_)
    · refine rj_iconst (pc := 51) dX11_entries_51 ?_
      refine r_istore_n (pc := 52) dX11_entries_52 (Nat.le_of_ble_eq_true rfl) ?_
      dsimp only [lsSt, List.set, mLs, mEnt]
      exfalso; omega
    · refine r_iload_n (pc := 14) dX11_entries_14 rfl ?_
      refine r_aload_n (pc := 15) dX11_entries_15 rfl (by first | rfl | exact isRefV_rf _) ?_
      refine r_iload_n (pc := 16) dX11_entries_16 rfl ?_
      refine r_callV1 (pc := 17) dX11_entries_17 qX11_isHeld kX11_119 vX11_isHeld (by exact isM.gx (by assumption)) rfl rfl (Nat.le_of_ble_eq_true rfl) (m_isHeld d hB hM (by omega) (by omega)) (fun v_17 h_17 q_17 => ?_)
      obtain ⟨rfl, rfl⟩ := q_17
      refine rj_if_eq (pc := 20) (tgt := 42) dX11_entries_20 (by decide) (by first | assumption | exact b01_r | exact bz_r | omega | (constructor <;> omega) | exact hM _ | exact hPo _ | exact hTa _ | exact hRo _) (fun c_20 => ?_) (fun c_20 => ?_)
      · try simp only [b01_0, bz_0, Classical.not_not] at c_20
        refine rj_iconst (pc := 42) dX11_entries_42 ?_
        refine rj_iadd (pc := 43) dX11_entries_43 ?_
        refine r_istore_n (pc := 44) dX11_entries_44 (Nat.le_of_ble_eq_true rfl) ?_
        dsimp only [lsSt, List.set, mLs, mEnt]
        refine rj_iinc (pc := 45) dX11_entries_45 (Nat.le_of_ble_eq_true rfl) rfl ?_
        dsimp only [lsSt, List.set, mLs, mEnt]
        refine r_goto (pc := 48) (tgt := 4) dX11_entries_48 (by decide) ?_
        have z := ih (t + 1) (by omega)
        rw [← cnt_f (by first | exact decide_eq_true (by (try simp only [n_open, n_held, n_ready, n_sc0, n_sc1, n_sc3, n_th1, n_fa] at *); omega) | exact decide_eq_false (by (try simp only [n_open, n_held, n_ready, n_sc0, n_sc1, n_sc3, n_th1, n_fa] at *); omega))] at z
        exact z
      · try simp only [b01_0, bz_0, Classical.not_not] at c_20
        refine r_aload_n (pc := 23) dX11_entries_23 rfl (by first | rfl | exact isRefV_rf _) ?_
        refine rm_getf (pc := 24) dX11_entries_24 fX11_11 (by assumption) rfl ?_
        refine r_iload_n (pc := 27) dX11_entries_27 rfl ?_
        refine rj_iconst (pc := 28) dX11_entries_28 ?_
        refine rj_iconst (pc := 29) dX11_entries_29 ?_
        refine r_callS3 (pc := 30) dX11_entries_30 qX11_ofThing kX11_54 sX11_ofThing (Nat.le_of_ble_eq_true rfl) (m_ofThing (d + 1)) (fun v_30 h_30 q_30 => ?_)
        obtain ⟨rfl, rfl⟩ := q_30
        refine rj_iald (pc := 33) dX11_entries_33 (by first | exact isM.g0 (by assumption) | exact isM.g3 (by assumption) | exact isM.g4 (by assumption) | exact isM.g8 (by assumption) | exact isM.g7 (by assumption) | exact isM.g6 (by assumption) | exact isM.g5 (by assumption) | exact isM.g1 (by assumption) | exact isM.g2 (by assumption)) (by first | assumption | exact b01_r | exact bz_r | omega | (constructor <;> omega) | exact hM _ | exact hPo _ | exact hTa _ | exact hRo _) (by first | assumption | exact b01_r | exact bz_r | omega | (constructor <;> omega) | exact hM _ | exact hPo _ | exact hTa _ | exact hRo _) (by first | assumption | exact b01_r | exact bz_r | omega | (constructor <;> omega) | exact hM _ | exact hPo _ | exact hTa _ | exact hRo _) rfl ?_
        refine r_iload_n (pc := 34) dX11_entries_34 rfl ?_
        refine rj_icmp_ne (pc := 35) (tgt := 42) dX11_entries_35 (by decide) (by first | assumption | exact b01_r | exact bz_r | omega | (constructor <;> omega) | exact hM _ | exact hPo _ | exact hTa _ | exact hRo _) (by first | assumption | exact b01_r | exact bz_r | omega | (constructor <;> omega) | exact hM _ | exact hPo _ | exact hTa _ | exact hRo _) (fun c_35 => ?_) (fun c_35 => ?_)
        · refine rj_iconst (pc := 42) dX11_entries_42 ?_
          refine rj_iadd (pc := 43) dX11_entries_43 ?_
          refine r_istore_n (pc := 44) dX11_entries_44 (Nat.le_of_ble_eq_true rfl) ?_
          dsimp only [lsSt, List.set, mLs, mEnt]
          refine rj_iinc (pc := 45) dX11_entries_45 (Nat.le_of_ble_eq_true rfl) rfl ?_
          dsimp only [lsSt, List.set, mLs, mEnt]
          refine r_goto (pc := 48) (tgt := 4) dX11_entries_48 (by decide) ?_
          have z := ih (t + 1) (by omega)
          rw [← cnt_f (by first | exact decide_eq_true (by (try simp only [n_open, n_held, n_ready, n_sc0, n_sc1, n_sc3, n_th1, n_fa] at *); omega) | exact decide_eq_false (by (try simp only [n_open, n_held, n_ready, n_sc0, n_sc1, n_sc3, n_th1, n_fa] at *); omega))] at z
          exact z
        · refine rj_iconst (pc := 38) dX11_entries_38 ?_
          refine r_goto (pc := 39) (tgt := 43) dX11_entries_39 (by decide) ?_
          refine rj_iadd (pc := 43) dX11_entries_43 ?_
          refine r_istore_n (pc := 44) dX11_entries_44 (Nat.le_of_ble_eq_true rfl) ?_
          dsimp only [lsSt, List.set, mLs, mEnt]
          refine rj_iinc (pc := 45) dX11_entries_45 (Nat.le_of_ble_eq_true rfl) rfl ?_
          dsimp only [lsSt, List.set, mLs, mEnt]
          refine r_goto (pc := 48) (tgt := 4) dX11_entries_48 (by decide) ?_
          have z := ih (t + 1) (by omega)
          rw [← cnt_t (by first | exact decide_eq_true (by (try simp only [n_open, n_held, n_ready, n_sc0, n_sc1, n_sc3, n_th1, n_fa] at *); omega) | exact decide_eq_false (by (try simp only [n_open, n_held, n_ready, n_sc0, n_sc1, n_sc3, n_th1, n_fa] at *); omega))] at z
          exact z
end mg_22

section mg_22
set_option maxHeartbeats 4000000 in
set_option maxRecDepth 100000 in
theorem L_notShut {G : mG} {l : Launch} (d : Nat) {h : mH} {x s : Nat} {f4 f6 f8 f9 f10 f11 f12 f13 f14 f16 f18 : Int} {m kp was pool tape pln pap rwd rw : Nat → Int}(hB : isM h x (mFs x f4 f6 f8 f9 f10 f11 f12 f13 f14 f16 f18 s) m kp was pool tape pln pap rwd rw) (hM : ∀ q, InR (m q)) {N : Nat} (hN : m 0 = (N : Int)) (hcap : N ≤ 60) {a : Int} (ha : InR a) : ∀ k t : Nat, t + k = N → RUN G l (d + 2) mX11_notShut 4 [some (.ref x), some (.int (J a)), some (.int (J (cnt (shutB m a) t))), some (.int (J ((t : Int))))] [] h (fun v h' => v = some (.int (J (cnt (shutB m a) N))) ∧ h' = h) := by
  dsimp only [mFs] at hB
  have rN := hM 0
  intro k
  induction k with
  | zero =>
    intro t ht
    refine r_iload_n (pc := 4) dX11_notShut_4 rfl ?_
    refine r_aload_n (pc := 5) dX11_notShut_5 rfl (by first | rfl | exact isRefV_rf _) ?_
    refine rm_getf (pc := 6) dX11_notShut_6 fX11_11 (by assumption) rfl ?_
    refine rj_iconst (pc := 9) dX11_notShut_9 ?_
    refine rj_iald (pc := 10) (j := 0) dX11_notShut_10 (by first | exact isM.g0 (by assumption) | exact isM.g3 (by assumption) | exact isM.g4 (by assumption) | exact isM.g8 (by assumption) | exact isM.g7 (by assumption) | exact isM.g6 (by assumption) | exact isM.g5 (by assumption) | exact isM.g1 (by assumption) | exact isM.g2 (by assumption)) (by first | assumption | exact b01_r | exact bz_r | omega | (constructor <;> omega) | exact hM _ | exact hPo _ | exact hTa _ | exact hRo _) (by first | assumption | exact b01_r | exact bz_r | omega | (constructor <;> omega) | exact hM _ | exact hPo _ | exact hTa _ | exact hRo _) (by first | assumption | exact b01_r | exact bz_r | omega | (constructor <;> omega) | exact hM _ | exact hPo _ | exact hTa _ | exact hRo _) rfl ?_
    refine rj_icmp_ge (pc := 11) (tgt := 56) dX11_notShut_11 (by decide) (by first | assumption | exact b01_r | exact bz_r | omega | (constructor <;> omega) | exact hM _ | exact hPo _ | exact hTa _ | exact hRo _) (by first | assumption | exact b01_r | exact bz_r | omega | (constructor <;> omega) | exact hM _ | exact hPo _ | exact hTa _ | exact hRo _) (fun c_11 => ?_) (fun c_11 => ?_)
    · refine r_iload_n (pc := 56) dX11_notShut_56 rfl ?_
      refine r_ireturn (pc := 57) .int dX11_notShut_57 rfl (by first | rfl | assumption) ?_
      have e : t = N := by omega
      subst e
      exact ⟨rfl, rfl⟩
    · refine r_iload_n (pc := 14) dX11_notShut_14 rfl ?_
      refine r_aload_n (pc := 15) dX11_notShut_15 rfl (by first | rfl | exact isRefV_rf _) ?_
      refine rm_getf (pc := 16) dX11_notShut_16 fX11_11 (by assumption) rfl ?_
      refine r_iload_n (pc := 19) dX11_notShut_19 rfl ?_
      refine rj_iconst (pc := 20) dX11_notShut_20 ?_
      refine r_callS2 (pc := 21) dX11_notShut_21 qX11_ofScope kX11_42 sX11_ofScope (Nat.le_of_ble_eq_true rfl) (m_ofScope (d + 1)) (fun v_21 h_21 q_21 => ?_)
      obtain ⟨rfl, rfl⟩ := q_21
      refine rj_iald (pc := 24) dX11_notShut_24 (by first | exact isM.g0 (by assumption) | exact isM.g3 (by assumption) | exact isM.g4 (by assumption) | exact isM.g8 (by assumption) | exact isM.g7 (by assumption) | exact isM.g6 (by assumption) | exact isM.g5 (by assumption) | exact isM.g1 (by assumption) | exact isM.g2 (by assumption)) (by first | assumption | exact b01_r | exact bz_r | omega | (constructor <;> omega) | exact hM _ | exact hPo _ | exact hTa _ | exact hRo _) (by first | assumption | exact b01_r | exact bz_r | omega | (constructor <;> omega) | exact hM _ | exact hPo _ | exact hTa _ | exact hRo _) (by first | assumption | exact b01_r | exact bz_r | omega | (constructor <;> omega) | exact hM _ | exact hPo _ | exact hTa _ | exact hRo _) rfl ?_
      refine r_iload_n (pc := 25) dX11_notShut_25 rfl ?_
      refine rj_icmp_ne (pc := 26) (tgt := 47) dX11_notShut_26 (by decide) (by first | assumption | exact b01_r | exact bz_r | omega | (constructor <;> omega) | exact hM _ | exact hPo _ | exact hTa _ | exact hRo _) (by first | assumption | exact b01_r | exact bz_r | omega | (constructor <;> omega) | exact hM _ | exact hPo _ | exact hTa _ | exact hRo _) (fun c_26 => ?_) (fun c_26 => ?_)
      · refine rj_iconst (pc := 47) dX11_notShut_47 ?_
        refine rj_iadd (pc := 48) dX11_notShut_48 ?_
        refine r_istore_n (pc := 49) dX11_notShut_49 (Nat.le_of_ble_eq_true rfl) ?_
        dsimp only [lsSt, List.set, mLs, mEnt]
        refine rj_iinc (pc := 50) dX11_notShut_50 (Nat.le_of_ble_eq_true rfl) rfl ?_
        dsimp only [lsSt, List.set, mLs, mEnt]
        refine r_goto (pc := 53) (tgt := 4) dX11_notShut_53 (by decide) ?_
        exfalso; omega
      · refine r_aload_n (pc := 29) dX11_notShut_29 rfl (by first | rfl | exact isRefV_rf _) ?_
        refine rm_getf (pc := 30) dX11_notShut_30 fX11_11 (by assumption) rfl ?_
        refine r_iload_n (pc := 33) dX11_notShut_33 rfl ?_
        refine rj_iconst (pc := 34) dX11_notShut_34 ?_
        refine r_callS2 (pc := 35) dX11_notShut_35 qX11_ofScope kX11_42 sX11_ofScope (Nat.le_of_ble_eq_true rfl) (m_ofScope (d + 1)) (fun v_35 h_35 q_35 => ?_)
        obtain ⟨rfl, rfl⟩ := q_35
        refine rj_iald (pc := 38) dX11_notShut_38 (by first | exact isM.g0 (by assumption) | exact isM.g3 (by assumption) | exact isM.g4 (by assumption) | exact isM.g8 (by assumption) | exact isM.g7 (by assumption) | exact isM.g6 (by assumption) | exact isM.g5 (by assumption) | exact isM.g1 (by assumption) | exact isM.g2 (by assumption)) (by first | assumption | exact b01_r | exact bz_r | omega | (constructor <;> omega) | exact hM _ | exact hPo _ | exact hTa _ | exact hRo _) (by first | assumption | exact b01_r | exact bz_r | omega | (constructor <;> omega) | exact hM _ | exact hPo _ | exact hTa _ | exact hRo _) (by first | assumption | exact b01_r | exact bz_r | omega | (constructor <;> omega) | exact hM _ | exact hPo _ | exact hTa _ | exact hRo _) rfl ?_
        refine rj_iconst (pc := 39) dX11_notShut_39 ?_
        refine rj_icmp_eq (pc := 40) (tgt := 47) dX11_notShut_40 (by decide) (by first | assumption | exact b01_r | exact bz_r | omega | (constructor <;> omega) | exact hM _ | exact hPo _ | exact hTa _ | exact hRo _) (by first | assumption | exact b01_r | exact bz_r | omega | (constructor <;> omega) | exact hM _ | exact hPo _ | exact hTa _ | exact hRo _) (fun c_40 => ?_) (fun c_40 => ?_)
        · refine rj_iconst (pc := 47) dX11_notShut_47 ?_
          refine rj_iadd (pc := 48) dX11_notShut_48 ?_
          refine r_istore_n (pc := 49) dX11_notShut_49 (Nat.le_of_ble_eq_true rfl) ?_
          dsimp only [lsSt, List.set, mLs, mEnt]
          refine rj_iinc (pc := 50) dX11_notShut_50 (Nat.le_of_ble_eq_true rfl) rfl ?_
          dsimp only [lsSt, List.set, mLs, mEnt]
          refine r_goto (pc := 53) (tgt := 4) dX11_notShut_53 (by decide) ?_
          exfalso; omega
        · refine rj_iconst (pc := 43) dX11_notShut_43 ?_
          refine r_goto (pc := 44) (tgt := 48) dX11_notShut_44 (by decide) ?_
          refine rj_iadd (pc := 48) dX11_notShut_48 ?_
          refine r_istore_n (pc := 49) dX11_notShut_49 (Nat.le_of_ble_eq_true rfl) ?_
          dsimp only [lsSt, List.set, mLs, mEnt]
          refine rj_iinc (pc := 50) dX11_notShut_50 (Nat.le_of_ble_eq_true rfl) rfl ?_
          dsimp only [lsSt, List.set, mLs, mEnt]
          refine r_goto (pc := 53) (tgt := 4) dX11_notShut_53 (by decide) ?_
          exfalso; omega
  | succ k ih =>
    intro t ht
    refine r_iload_n (pc := 4) dX11_notShut_4 rfl ?_
    refine r_aload_n (pc := 5) dX11_notShut_5 rfl (by first | rfl | exact isRefV_rf _) ?_
    refine rm_getf (pc := 6) dX11_notShut_6 fX11_11 (by assumption) rfl ?_
    refine rj_iconst (pc := 9) dX11_notShut_9 ?_
    refine rj_iald (pc := 10) (j := 0) dX11_notShut_10 (by first | exact isM.g0 (by assumption) | exact isM.g3 (by assumption) | exact isM.g4 (by assumption) | exact isM.g8 (by assumption) | exact isM.g7 (by assumption) | exact isM.g6 (by assumption) | exact isM.g5 (by assumption) | exact isM.g1 (by assumption) | exact isM.g2 (by assumption)) (by first | assumption | exact b01_r | exact bz_r | omega | (constructor <;> omega) | exact hM _ | exact hPo _ | exact hTa _ | exact hRo _) (by first | assumption | exact b01_r | exact bz_r | omega | (constructor <;> omega) | exact hM _ | exact hPo _ | exact hTa _ | exact hRo _) (by first | assumption | exact b01_r | exact bz_r | omega | (constructor <;> omega) | exact hM _ | exact hPo _ | exact hTa _ | exact hRo _) rfl ?_
    refine rj_icmp_ge (pc := 11) (tgt := 56) dX11_notShut_11 (by decide) (by first | assumption | exact b01_r | exact bz_r | omega | (constructor <;> omega) | exact hM _ | exact hPo _ | exact hTa _ | exact hRo _) (by first | assumption | exact b01_r | exact bz_r | omega | (constructor <;> omega) | exact hM _ | exact hPo _ | exact hTa _ | exact hRo _) (fun c_11 => ?_) (fun c_11 => ?_)
    · refine r_iload_n (pc := 56) dX11_notShut_56 rfl ?_
      refine r_ireturn (pc := 57) .int dX11_notShut_57 rfl (by first | rfl | assumption) ?_
      exfalso; omega
    · refine r_iload_n (pc := 14) dX11_notShut_14 rfl ?_
      refine r_aload_n (pc := 15) dX11_notShut_15 rfl (by first | rfl | exact isRefV_rf _) ?_
      refine rm_getf (pc := 16) dX11_notShut_16 fX11_11 (by assumption) rfl ?_
      refine r_iload_n (pc := 19) dX11_notShut_19 rfl ?_
      refine rj_iconst (pc := 20) dX11_notShut_20 ?_
      refine r_callS2 (pc := 21) dX11_notShut_21 qX11_ofScope kX11_42 sX11_ofScope (Nat.le_of_ble_eq_true rfl) (m_ofScope (d + 1)) (fun v_21 h_21 q_21 => ?_)
      obtain ⟨rfl, rfl⟩ := q_21
      refine rj_iald (pc := 24) dX11_notShut_24 (by first | exact isM.g0 (by assumption) | exact isM.g3 (by assumption) | exact isM.g4 (by assumption) | exact isM.g8 (by assumption) | exact isM.g7 (by assumption) | exact isM.g6 (by assumption) | exact isM.g5 (by assumption) | exact isM.g1 (by assumption) | exact isM.g2 (by assumption)) (by first | assumption | exact b01_r | exact bz_r | omega | (constructor <;> omega) | exact hM _ | exact hPo _ | exact hTa _ | exact hRo _) (by first | assumption | exact b01_r | exact bz_r | omega | (constructor <;> omega) | exact hM _ | exact hPo _ | exact hTa _ | exact hRo _) (by first | assumption | exact b01_r | exact bz_r | omega | (constructor <;> omega) | exact hM _ | exact hPo _ | exact hTa _ | exact hRo _) rfl ?_
      refine r_iload_n (pc := 25) dX11_notShut_25 rfl ?_
      refine rj_icmp_ne (pc := 26) (tgt := 47) dX11_notShut_26 (by decide) (by first | assumption | exact b01_r | exact bz_r | omega | (constructor <;> omega) | exact hM _ | exact hPo _ | exact hTa _ | exact hRo _) (by first | assumption | exact b01_r | exact bz_r | omega | (constructor <;> omega) | exact hM _ | exact hPo _ | exact hTa _ | exact hRo _) (fun c_26 => ?_) (fun c_26 => ?_)
      · refine rj_iconst (pc := 47) dX11_notShut_47 ?_
        refine rj_iadd (pc := 48) dX11_notShut_48 ?_
        refine r_istore_n (pc := 49) dX11_notShut_49 (Nat.le_of_ble_eq_true rfl) ?_
        dsimp only [lsSt, List.set, mLs, mEnt]
        refine rj_iinc (pc := 50) dX11_notShut_50 (Nat.le_of_ble_eq_true rfl) rfl ?_
        dsimp only [lsSt, List.set, mLs, mEnt]
        refine r_goto (pc := 53) (tgt := 4) dX11_notShut_53 (by decide) ?_
        have z := ih (t + 1) (by omega)
        rw [← cnt_f (by first | exact decide_eq_true (by (try simp only [n_open, n_held, n_ready, n_sc0, n_sc1, n_sc3, n_th1, n_fa] at *); omega) | exact decide_eq_false (by (try simp only [n_open, n_held, n_ready, n_sc0, n_sc1, n_sc3, n_th1, n_fa] at *); omega))] at z
        exact z
      · refine r_aload_n (pc := 29) dX11_notShut_29 rfl (by first | rfl | exact isRefV_rf _) ?_
        refine rm_getf (pc := 30) dX11_notShut_30 fX11_11 (by assumption) rfl ?_
        refine r_iload_n (pc := 33) dX11_notShut_33 rfl ?_
        refine rj_iconst (pc := 34) dX11_notShut_34 ?_
        refine r_callS2 (pc := 35) dX11_notShut_35 qX11_ofScope kX11_42 sX11_ofScope (Nat.le_of_ble_eq_true rfl) (m_ofScope (d + 1)) (fun v_35 h_35 q_35 => ?_)
        obtain ⟨rfl, rfl⟩ := q_35
        refine rj_iald (pc := 38) dX11_notShut_38 (by first | exact isM.g0 (by assumption) | exact isM.g3 (by assumption) | exact isM.g4 (by assumption) | exact isM.g8 (by assumption) | exact isM.g7 (by assumption) | exact isM.g6 (by assumption) | exact isM.g5 (by assumption) | exact isM.g1 (by assumption) | exact isM.g2 (by assumption)) (by first | assumption | exact b01_r | exact bz_r | omega | (constructor <;> omega) | exact hM _ | exact hPo _ | exact hTa _ | exact hRo _) (by first | assumption | exact b01_r | exact bz_r | omega | (constructor <;> omega) | exact hM _ | exact hPo _ | exact hTa _ | exact hRo _) (by first | assumption | exact b01_r | exact bz_r | omega | (constructor <;> omega) | exact hM _ | exact hPo _ | exact hTa _ | exact hRo _) rfl ?_
        refine rj_iconst (pc := 39) dX11_notShut_39 ?_
        refine rj_icmp_eq (pc := 40) (tgt := 47) dX11_notShut_40 (by decide) (by first | assumption | exact b01_r | exact bz_r | omega | (constructor <;> omega) | exact hM _ | exact hPo _ | exact hTa _ | exact hRo _) (by first | assumption | exact b01_r | exact bz_r | omega | (constructor <;> omega) | exact hM _ | exact hPo _ | exact hTa _ | exact hRo _) (fun c_40 => ?_) (fun c_40 => ?_)
        · refine rj_iconst (pc := 47) dX11_notShut_47 ?_
          refine rj_iadd (pc := 48) dX11_notShut_48 ?_
          refine r_istore_n (pc := 49) dX11_notShut_49 (Nat.le_of_ble_eq_true rfl) ?_
          dsimp only [lsSt, List.set, mLs, mEnt]
          refine rj_iinc (pc := 50) dX11_notShut_50 (Nat.le_of_ble_eq_true rfl) rfl ?_
          dsimp only [lsSt, List.set, mLs, mEnt]
          refine r_goto (pc := 53) (tgt := 4) dX11_notShut_53 (by decide) ?_
          have z := ih (t + 1) (by omega)
          rw [← cnt_f (by first | exact decide_eq_true (by (try simp only [n_open, n_held, n_ready, n_sc0, n_sc1, n_sc3, n_th1, n_fa] at *); omega) | exact decide_eq_false (by (try simp only [n_open, n_held, n_ready, n_sc0, n_sc1, n_sc3, n_th1, n_fa] at *); omega))] at z
          exact z
        · refine rj_iconst (pc := 43) dX11_notShut_43 ?_
          refine r_goto (pc := 44) (tgt := 48) dX11_notShut_44 (by decide) ?_
          refine rj_iadd (pc := 48) dX11_notShut_48 ?_
          refine r_istore_n (pc := 49) dX11_notShut_49 (Nat.le_of_ble_eq_true rfl) ?_
          dsimp only [lsSt, List.set, mLs, mEnt]
          refine rj_iinc (pc := 50) dX11_notShut_50 (Nat.le_of_ble_eq_true rfl) rfl ?_
          dsimp only [lsSt, List.set, mLs, mEnt]
          refine r_goto (pc := 53) (tgt := 4) dX11_notShut_53 (by decide) ?_
          have z := ih (t + 1) (by omega)
          rw [← cnt_t (by first | exact decide_eq_true (by (try simp only [n_open, n_held, n_ready, n_sc0, n_sc1, n_sc3, n_th1, n_fa] at *); omega) | exact decide_eq_false (by (try simp only [n_open, n_held, n_ready, n_sc0, n_sc1, n_sc3, n_th1, n_fa] at *); omega))] at z
          exact z
end mg_22

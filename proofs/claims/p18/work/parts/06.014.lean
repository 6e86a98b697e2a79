section mg_22
set_option maxHeartbeats 4000000 in
set_option maxRecDepth 100000 in
theorem L_opened {G : mG} {l : Launch} (d : Nat) {h : mH} {x s : Nat} {f4 f6 f8 f9 f10 f11 f12 f13 f14 f16 f18 : Int} {m kp was pool tape pln pap rwd rw : Nat → Int}(hB : isM h x (mFs x f4 f6 f8 f9 f10 f11 f12 f13 f14 f16 f18 s) m kp was pool tape pln pap rwd rw) (hM : ∀ q, InR (m q)) {N : Nat} (hN : m 0 = (N : Int)) (hcap : N ≤ 60)  : ∀ k t : Nat, t + k = N → RUN G l (d + 3) mX11_opened 4 [some (.ref x), some (.int (J (cnt (openB m) t))), some (.int (J ((t : Int))))] [] h (fun v h' => v = some (.int (J (cnt (openB m) N))) ∧ h' = h) := by
  dsimp only [mFs] at hB
  have rN := hM 0
  intro k
  induction k with
  | zero =>
    intro t ht
    refine r_iload_n (pc := 4) dX11_opened_4 rfl ?_
    refine r_aload_n (pc := 5) dX11_opened_5 rfl (by first | rfl | exact isRefV_rf _) ?_
    refine rm_getf (pc := 6) dX11_opened_6 fX11_11 (by assumption) rfl ?_
    refine rj_iconst (pc := 9) dX11_opened_9 ?_
    refine rj_iald (pc := 10) (j := 0) dX11_opened_10 (by first | exact isM.g0 (by assumption) | exact isM.g3 (by assumption) | exact isM.g4 (by assumption) | exact isM.g8 (by assumption) | exact isM.g7 (by assumption) | exact isM.g6 (by assumption) | exact isM.g5 (by assumption) | exact isM.g1 (by assumption) | exact isM.g2 (by assumption)) (by first | assumption | exact b01_r | exact bz_r | omega | (constructor <;> omega) | exact hM _ | exact hPo _ | exact hTa _ | exact hRo _) (by first | assumption | exact b01_r | exact bz_r | omega | (constructor <;> omega) | exact hM _ | exact hPo _ | exact hTa _ | exact hRo _) (by first | assumption | exact b01_r | exact bz_r | omega | (constructor <;> omega) | exact hM _ | exact hPo _ | exact hTa _ | exact hRo _) rfl ?_
    refine rj_icmp_ge (pc := 11) (tgt := 36) dX11_opened_11 (by decide) (by first | assumption | exact b01_r | exact bz_r | omega | (constructor <;> omega) | exact hM _ | exact hPo _ | exact hTa _ | exact hRo _) (by first | assumption | exact b01_r | exact bz_r | omega | (constructor <;> omega) | exact hM _ | exact hPo _ | exact hTa _ | exact hRo _) (fun c_11 => ?_) (fun c_11 => ?_)
    · refine r_iload_n (pc := 36) dX11_opened_36 rfl ?_
      refine r_ireturn (pc := 37) .int dX11_opened_37 rfl (by first | rfl | assumption) ?_
      have e : t = N := by omega
      subst e
      exact ⟨rfl, rfl⟩
    · refine r_iload_n (pc := 14) dX11_opened_14 rfl ?_
      refine r_aload_n (pc := 15) dX11_opened_15 rfl (by first | rfl | exact isRefV_rf _) ?_
      refine r_iload_n (pc := 16) dX11_opened_16 rfl ?_
      refine r_callV1 (pc := 17) dX11_opened_17 qX11_isOpen kX11_146 vX11_isOpen (by exact isM.gx (by assumption)) rfl rfl (Nat.le_of_ble_eq_true rfl) (m_isOpen d hB hM ⟨by omega, by omega⟩ ⟨by omega, by omega⟩) (fun v_17 h_17 q_17 => ?_)
      obtain ⟨rfl, rfl⟩ := q_17
      refine rj_if_eq (pc := 20) (tgt := 27) dX11_opened_20 (by decide) (by first | assumption | exact b01_r | exact bz_r | omega | (constructor <;> omega) | exact hM _ | exact hPo _ | exact hTa _ | exact hRo _) (fun c_20 => ?_) (fun c_20 => ?_)
      · try simp only [b01_0, bz_0, Classical.not_not] at c_20
        refine rj_iconst (pc := 27) dX11_opened_27 ?_
        refine rj_iadd (pc := 28) dX11_opened_28 ?_
        refine r_istore_n (pc := 29) dX11_opened_29 (Nat.le_of_ble_eq_true rfl) ?_
        dsimp only [lsSt, List.set, mLs, mEnt]
        refine rj_iinc (pc := 30) dX11_opened_30 (Nat.le_of_ble_eq_true rfl) rfl ?_
        dsimp only [lsSt, List.set, mLs, mEnt]
        refine r_goto (pc := 33) (tgt := 4) dX11_opened_33 (by decide) ?_
        exfalso; omega
      · try simp only [b01_0, bz_0, Classical.not_not] at c_20
        refine rj_iconst (pc := 23) dX11_opened_23 ?_
        refine r_goto (pc := 24) (tgt := 28) dX11_opened_24 (by decide) ?_
        refine rj_iadd (pc := 28) dX11_opened_28 ?_
        refine r_istore_n (pc := 29) dX11_opened_29 (Nat.le_of_ble_eq_true rfl) ?_
        dsimp only [lsSt, List.set, mLs, mEnt]
        refine rj_iinc (pc := 30) dX11_opened_30 (Nat.le_of_ble_eq_true rfl) rfl ?_
        dsimp only [lsSt, List.set, mLs, mEnt]
        refine r_goto (pc := 33) (tgt := 4) dX11_opened_33 (by decide) ?_
        exfalso; omega
  | succ k ih =>
    intro t ht
    refine r_iload_n (pc := 4) dX11_opened_4 rfl ?_
    refine r_aload_n (pc := 5) dX11_opened_5 rfl (by first | rfl | exact isRefV_rf _) ?_
    refine rm_getf (pc := 6) dX11_opened_6 fX11_11 (by assumption) rfl ?_
    refine rj_iconst (pc := 9) dX11_opened_9 ?_
    refine rj_iald (pc := 10) (j := 0) dX11_opened_10 (by first | exact isM.g0 (by assumption) | exact isM.g3 (by assumption) | exact isM.g4 (by assumption) | exact isM.g8 (by assumption) | exact isM.g7 (by assumption) | exact isM.g6 (by assumption) | exact isM.g5 (by assumption) | exact isM.g1 (by assumption) | exact isM.g2 (by assumption)) (by first | assumption | exact b01_r | exact bz_r | omega | (constructor <;> omega) | exact hM _ | exact hPo _ | exact hTa _ | exact hRo _) (by first | assumption | exact b01_r | exact bz_r | omega | (constructor <;> omega) | exact hM _ | exact hPo _ | exact hTa _ | exact hRo _) (by first | assumption | exact b01_r | exact bz_r | omega | (constructor <;> omega) | exact hM _ | exact hPo _ | exact hTa _ | exact hRo _) rfl ?_
    refine rj_icmp_ge (pc := 11) (tgt := 36) dX11_opened_11 (by decide) (by first | assumption | exact b01_r | exact bz_r | omega | (constructor <;> omega) | exact hM _ | exact hPo _ | exact hTa _ | exact hRo _) (by first | assumption | exact b01_r | exact bz_r | omega | (constructor <;> omega) | exact hM _ | exact hPo _ | exact hTa _ | exact hRo _) (fun c_11 => ?_) (fun c_11 => ?_)
    · refine r_iload_n (pc := 36) dX11_opened_36 rfl ?_
      refine r_ireturn (pc := 37) .int dX11_opened_37 rfl (by first | rfl | assumption) ?_
      exfalso; omega
    · refine r_iload_n (pc := 14) dX11_opened_14 rfl ?_
      refine r_aload_n (pc := 15) dX11_opened_15 rfl (by first | rfl | exact isRefV_rf _) ?_
      refine r_iload_n (pc := 16) dX11_opened_16 rfl ?_
      refine r_callV1 (pc := 17) dX11_opened_17 qX11_isOpen kX11_146 vX11_isOpen (by exact isM.gx (by assumption)) rfl rfl (Nat.le_of_ble_eq_true rfl) (m_isOpen d hB hM ⟨by omega, by omega⟩ ⟨by omega, by omega⟩) (fun v_17 h_17 q_17 => ?_)
      obtain ⟨rfl, rfl⟩ := q_17
      refine rj_if_eq (pc := 20) (tgt := 27) dX11_opened_20 (by decide) (by first | assumption | exact b01_r | exact bz_r | omega | (constructor <;> omega) | exact hM _ | exact hPo _ | exact hTa _ | exact hRo _) (fun c_20 => ?_) (fun c_20 => ?_)
      · try simp only [b01_0, bz_0, Classical.not_not] at c_20
        refine rj_iconst (pc := 27) dX11_opened_27 ?_
        refine rj_iadd (pc := 28) dX11_opened_28 ?_
        refine r_istore_n (pc := 29) dX11_opened_29 (Nat.le_of_ble_eq_true rfl) ?_
        dsimp only [lsSt, List.set, mLs, mEnt]
        refine rj_iinc (pc := 30) dX11_opened_30 (Nat.le_of_ble_eq_true rfl) rfl ?_
        dsimp only [lsSt, List.set, mLs, mEnt]
        refine r_goto (pc := 33) (tgt := 4) dX11_opened_33 (by decide) ?_
        have z := ih (t + 1) (by omega)
        rw [← cnt_f (by first | exact decide_eq_true (by (try simp only [n_open, n_held, n_ready, n_sc0, n_sc1, n_sc3, n_th1, n_fa] at *); omega) | exact decide_eq_false (by (try simp only [n_open, n_held, n_ready, n_sc0, n_sc1, n_sc3, n_th1, n_fa] at *); omega))] at z
        exact z
      · try simp only [b01_0, bz_0, Classical.not_not] at c_20
        refine rj_iconst (pc := 23) dX11_opened_23 ?_
        refine r_goto (pc := 24) (tgt := 28) dX11_opened_24 (by decide) ?_
        refine rj_iadd (pc := 28) dX11_opened_28 ?_
        refine r_istore_n (pc := 29) dX11_opened_29 (Nat.le_of_ble_eq_true rfl) ?_
        dsimp only [lsSt, List.set, mLs, mEnt]
        refine rj_iinc (pc := 30) dX11_opened_30 (Nat.le_of_ble_eq_true rfl) rfl ?_
        dsimp only [lsSt, List.set, mLs, mEnt]
        refine r_goto (pc := 33) (tgt := 4) dX11_opened_33 (by decide) ?_
        have z := ih (t + 1) (by omega)
        rw [← cnt_t (by first | exact decide_eq_true (by (try simp only [n_open, n_held, n_ready, n_sc0, n_sc1, n_sc3, n_th1, n_fa] at *); omega) | exact decide_eq_false (by (try simp only [n_open, n_held, n_ready, n_sc0, n_sc1, n_sc3, n_th1, n_fa] at *); omega))] at z
        exact z
end mg_22

section mg_22
set_option maxHeartbeats 4000000 in
set_option maxRecDepth 100000 in
theorem L_gatheredBy {G : mG} {l : Launch} (d : Nat) {h : mH} {x s : Nat} {f4 f6 f8 f9 f10 f11 f12 f13 f14 f16 f18 : Int} {m kp was pool tape pln pap rwd rw : Nat → Int}(hB : isM h x (mFs x f4 f6 f8 f9 f10 f11 f12 f13 f14 f16 f18 s) m kp was pool tape pln pap rwd rw) (hM : ∀ q, InR (m q)) {N : Nat} (hN : m 4 = (N : Int)) (hcap : N ≤ 120) {a : Int} (ha : InR a) : ∀ k t : Nat, t + k = N → RUN G l (d + 2) mX11_gatheredBy 4 [some (.ref x), some (.int (J a)), some (.int (J (cnt (faultB m a) t))), some (.int (J ((t : Int))))] [] h (fun v h' => v = some (.int (J (cnt (faultB m a) N))) ∧ h' = h) := by
  dsimp only [mFs] at hB
  have rN := hM 4
  intro k
  induction k with
  | zero =>
    intro t ht
    refine r_iload_n (pc := 4) dX11_gatheredBy_4 rfl ?_
    refine r_aload_n (pc := 5) dX11_gatheredBy_5 rfl (by first | rfl | exact isRefV_rf _) ?_
    refine rm_getf (pc := 6) dX11_gatheredBy_6 fX11_11 (by assumption) rfl ?_
    refine rj_iconst (pc := 9) dX11_gatheredBy_9 ?_
    refine rj_iald (pc := 10) (j := 4) dX11_gatheredBy_10 (by first | exact isM.g0 (by assumption) | exact isM.g3 (by assumption) | exact isM.g4 (by assumption) | exact isM.g8 (by assumption) | exact isM.g7 (by assumption) | exact isM.g6 (by assumption) | exact isM.g5 (by assumption) | exact isM.g1 (by assumption) | exact isM.g2 (by assumption)) (by first | assumption | exact b01_r | exact bz_r | omega | (constructor <;> omega) | exact hM _ | exact hPo _ | exact hTa _ | exact hRo _) (by first | assumption | exact b01_r | exact bz_r | omega | (constructor <;> omega) | exact hM _ | exact hPo _ | exact hTa _ | exact hRo _) (by first | assumption | exact b01_r | exact bz_r | omega | (constructor <;> omega) | exact hM _ | exact hPo _ | exact hTa _ | exact hRo _) rfl ?_
    refine rj_icmp_ge (pc := 11) (tgt := 44) dX11_gatheredBy_11 (by decide) (by first | assumption | exact b01_r | exact bz_r | omega | (constructor <;> omega) | exact hM _ | exact hPo _ | exact hTa _ | exact hRo _) (by first | assumption | exact b01_r | exact bz_r | omega | (constructor <;> omega) | exact hM _ | exact hPo _ | exact hTa _ | exact hRo _) (fun c_11 => ?_) (fun c_11 => ?_)
    · refine r_iload_n (pc := 44) dX11_gatheredBy_44 rfl ?_
      refine r_ireturn (pc := 45) .int dX11_gatheredBy_45 rfl (by first | rfl | assumption) ?_
      have e : t = N := by omega
      subst e
      exact ⟨rfl, rfl⟩
    · refine r_iload_n (pc := 14) dX11_gatheredBy_14 rfl ?_
      refine r_aload_n (pc := 15) dX11_gatheredBy_15 rfl (by first | rfl | exact isRefV_rf _) ?_
      refine rm_getf (pc := 16) dX11_gatheredBy_16 fX11_11 (by assumption) rfl ?_
      refine rj_sipush (pc := 19) dX11_gatheredBy_19 (by decide +kernel) ?_
      refine rj_iconst (pc := 22) dX11_gatheredBy_22 ?_
      refine r_iload_n (pc := 23) dX11_gatheredBy_23 rfl ?_
      refine rj_imul (pc := 24) dX11_gatheredBy_24 ?_
      refine rj_iadd (pc := 25) dX11_gatheredBy_25 ?_
      refine rj_iald (pc := 26) dX11_gatheredBy_26 (by first | exact isM.g0 (by assumption) | exact isM.g3 (by assumption) | exact isM.g4 (by assumption) | exact isM.g8 (by assumption) | exact isM.g7 (by assumption) | exact isM.g6 (by assumption) | exact isM.g5 (by assumption) | exact isM.g1 (by assumption) | exact isM.g2 (by assumption)) (by first | assumption | exact b01_r | exact bz_r | omega | (constructor <;> omega) | exact hM _ | exact hPo _ | exact hTa _ | exact hRo _) (by first | assumption | exact b01_r | exact bz_r | omega | (constructor <;> omega) | exact hM _ | exact hPo _ | exact hTa _ | exact hRo _) (by first | assumption | exact b01_r | exact bz_r | omega | (constructor <;> omega) | exact hM _ | exact hPo _ | exact hTa _ | exact hRo _) rfl ?_
      refine r_iload_n (pc := 27) dX11_gatheredBy_27 rfl ?_
      refine rj_icmp_ne (pc := 28) (tgt := 35) dX11_gatheredBy_28 (by decide) (by first | assumption | exact b01_r | exact bz_r | omega | (constructor <;> omega) | exact hM _ | exact hPo _ | exact hTa _ | exact hRo _) (by first | assumption | exact b01_r | exact bz_r | omega | (constructor <;> omega) | exact hM _ | exact hPo _ | exact hTa _ | exact hRo _) (fun c_28 => ?_) (fun c_28 => ?_)
      · refine rj_iconst (pc := 35) dX11_gatheredBy_35 ?_
        refine rj_iadd (pc := 36) dX11_gatheredBy_36 ?_
        refine r_istore_n (pc := 37) dX11_gatheredBy_37 (Nat.le_of_ble_eq_true rfl) ?_
        dsimp only [lsSt, List.set, mLs, mEnt]
        refine rj_iinc (pc := 38) dX11_gatheredBy_38 (Nat.le_of_ble_eq_true rfl) rfl ?_
        dsimp only [lsSt, List.set, mLs, mEnt]
        refine r_goto (pc := 41) (tgt := 4) dX11_gatheredBy_41 (by decide) ?_
        exfalso; omega
      · refine rj_iconst (pc := 31) dX11_gatheredBy_31 ?_
        refine r_goto (pc := 32) (tgt := 36) dX11_gatheredBy_32 (by decide) ?_
        refine rj_iadd (pc := 36) dX11_gatheredBy_36 ?_
        refine r_istore_n (pc := 37) dX11_gatheredBy_37 (Nat.le_of_ble_eq_true rfl) ?_
        dsimp only [lsSt, List.set, mLs, mEnt]
        refine rj_iinc (pc := 38) dX11_gatheredBy_38 (Nat.le_of_ble_eq_true rfl) rfl ?_
        dsimp only [lsSt, List.set, mLs, mEnt]
        refine r_goto (pc := 41) (tgt := 4) dX11_gatheredBy_41 (by decide) ?_
        exfalso; omega
  | succ k ih =>
    intro t ht
    refine r_iload_n (pc := 4) dX11_gatheredBy_4 rfl ?_
    refine r_aload_n (pc := 5) dX11_gatheredBy_5 rfl (by first | rfl | exact isRefV_rf _) ?_
    refine rm_getf (pc := 6) dX11_gatheredBy_6 fX11_11 (by assumption) rfl ?_
    refine rj_iconst (pc := 9) dX11_gatheredBy_9 ?_
    refine rj_iald (pc := 10) (j := 4) dX11_gatheredBy_10 (by first | exact isM.g0 (by assumption) | exact isM.g3 (by assumption) | exact isM.g4 (by assumption) | exact isM.g8 (by assumption) | exact isM.g7 (by assumption) | exact isM.g6 (by assumption) | exact isM.g5 (by assumption) | exact isM.g1 (by assumption) | exact isM.g2 (by assumption)) (by first | assumption | exact b01_r | exact bz_r | omega | (constructor <;> omega) | exact hM _ | exact hPo _ | exact hTa _ | exact hRo _) (by first | assumption | exact b01_r | exact bz_r | omega | (constructor <;> omega) | exact hM _ | exact hPo _ | exact hTa _ | exact hRo _) (by first | assumption | exact b01_r | exact bz_r | omega | (constructor <;> omega) | exact hM _ | exact hPo _ | exact hTa _ | exact hRo _) rfl ?_
    refine rj_icmp_ge (pc := 11) (tgt := 44) dX11_gatheredBy_11 (by decide) (by first | assumption | exact b01_r | exact bz_r | omega | (constructor <;> omega) | exact hM _ | exact hPo _ | exact hTa _ | exact hRo _) (by first | assumption | exact b01_r | exact bz_r | omega | (constructor <;> omega) | exact hM _ | exact hPo _ | exact hTa _ | exact hRo _) (fun c_11 => ?_) (fun c_11 => ?_)
    · refine r_iload_n (pc := 44) dX11_gatheredBy_44 rfl ?_
      refine r_ireturn (pc := 45) .int dX11_gatheredBy_45 rfl (by first | rfl | assumption) ?_
      exfalso; omega
    · refine r_iload_n (pc := 14) dX11_gatheredBy_14 rfl ?_
      refine r_aload_n (pc := 15) dX11_gatheredBy_15 rfl (by first | rfl | exact isRefV_rf _) ?_
      refine rm_getf (pc := 16) dX11_gatheredBy_16 fX11_11 (by assumption) rfl ?_
      refine rj_sipush (pc := 19) dX11_gatheredBy_19 (by decide +kernel) ?_
      refine rj_iconst (pc := 22) dX11_gatheredBy_22 ?_
      refine r_iload_n (pc := 23) dX11_gatheredBy_23 rfl ?_
      refine rj_imul (pc := 24) dX11_gatheredBy_24 ?_
      refine rj_iadd (pc := 25) dX11_gatheredBy_25 ?_
      refine rj_iald (pc := 26) dX11_gatheredBy_26 (by first | exact isM.g0 (by assumption) | exact isM.g3 (by assumption) | exact isM.g4 (by assumption) | exact isM.g8 (by assumption) | exact isM.g7 (by assumption) | exact isM.g6 (by assumption) | exact isM.g5 (by assumption) | exact isM.g1 (by assumption) | exact isM.g2 (by assumption)) (by first | assumption | exact b01_r | exact bz_r | omega | (constructor <;> omega) | exact hM _ | exact hPo _ | exact hTa _ | exact hRo _) (by first | assumption | exact b01_r | exact bz_r | omega | (constructor <;> omega) | exact hM _ | exact hPo _ | exact hTa _ | exact hRo _) (by first | assumption | exact b01_r | exact bz_r | omega | (constructor <;> omega) | exact hM _ | exact hPo _ | exact hTa _ | exact hRo _) rfl ?_
      refine r_iload_n (pc := 27) dX11_gatheredBy_27 rfl ?_
      refine rj_icmp_ne (pc := 28) (tgt := 35) dX11_gatheredBy_28 (by decide) (by first | assumption | exact b01_r | exact bz_r | omega | (constructor <;> omega) | exact hM _ | exact hPo _ | exact hTa _ | exact hRo _) (by first | assumption | exact b01_r | exact bz_r | omega | (constructor <;> omega) | exact hM _ | exact hPo _ | exact hTa _ | exact hRo _) (fun c_28 => ?_) (fun c_28 => ?_)
      · refine rj_iconst (pc := 35) dX11_gatheredBy_35 ?_
        refine rj_iadd (pc := 36) dX11_gatheredBy_36 ?_
        refine r_istore_n (pc := 37) dX11_gatheredBy_37 (Nat.le_of_ble_eq_true rfl) ?_
        dsimp only [lsSt, List.set, mLs, mEnt]
        refine rj_iinc (pc := 38) dX11_gatheredBy_38 (Nat.le_of_ble_eq_true rfl) rfl ?_
        dsimp only [lsSt, List.set, mLs, mEnt]
        refine r_goto (pc := 41) (tgt := 4) dX11_gatheredBy_41 (by decide) ?_
        have z := ih (t + 1) (by omega)
        rw [← cnt_f (by first | exact decide_eq_true (by (try simp only [n_open, n_held, n_ready, n_sc0, n_sc1, n_sc3, n_th1, n_fa] at *); omega) | exact decide_eq_false (by (try simp only [n_open, n_held, n_ready, n_sc0, n_sc1, n_sc3, n_th1, n_fa] at *); omega))] at z
        exact z
      · refine rj_iconst (pc := 31) dX11_gatheredBy_31 ?_
        refine r_goto (pc := 32) (tgt := 36) dX11_gatheredBy_32 (by decide) ?_
        refine rj_iadd (pc := 36) dX11_gatheredBy_36 ?_
        refine r_istore_n (pc := 37) dX11_gatheredBy_37 (Nat.le_of_ble_eq_true rfl) ?_
        dsimp only [lsSt, List.set, mLs, mEnt]
        refine rj_iinc (pc := 38) dX11_gatheredBy_38 (Nat.le_of_ble_eq_true rfl) rfl ?_
        dsimp only [lsSt, List.set, mLs, mEnt]
        refine r_goto (pc := 41) (tgt := 4) dX11_gatheredBy_41 (by decide) ?_
        have z := ih (t + 1) (by omega)
        rw [← cnt_t (by first | exact decide_eq_true (by (try simp only [n_open, n_held, n_ready, n_sc0, n_sc1, n_sc3, n_th1, n_fa] at *); omega) | exact decide_eq_false (by (try simp only [n_open, n_held, n_ready, n_sc0, n_sc1, n_sc3, n_th1, n_fa] at *); omega))] at z
        exact z
end mg_22

section mg_34
set_option maxHeartbeats 4000000 in
set_option maxRecDepth 100000 in
theorem L_heldIn {G : mG} {l : Launch} (d : Nat) {h : mH} {x s : Nat} {f4 f6 f8 f9 f10 f11 f12 f13 f14 f16 f18 : Int} {m kp was pool tape pln pap rwd rw : Nat → Int}(hB : isM h x (mFs x f4 f6 f8 f9 f10 f11 f12 f13 f14 f16 f18 s) m kp was pool tape pln pap rwd rw) (hM : ∀ q, InR (m q)) {N : Nat} (hN : m 1 = (N : Int)) (hcap : N ≤ 90) {C : Nat} (hC2 : C ≤ 60) (hP : parOk m C) (hO : ownOk m N C) {a : Int} (ha : InR a) : ∀ k t : Nat, t + k = N → RUN G l (d + 3) mX11_heldIn 4 [some (.ref x), some (.int (J a)), some (.int (J (cnt (heldInB m C a) t))), some (.int (J ((t : Int))))] [] h (fun v h' => v = some (.int (J (cnt (heldInB m C a) N))) ∧ h' = h) := by
  dsimp only [mFs] at hB
  have rN := hM 1
  intro k
  induction k with
  | zero =>
    intro t ht
    refine r_iload_n (pc := 4) dX11_heldIn_4 rfl ?_
    refine r_aload_n (pc := 5) dX11_heldIn_5 rfl (by first | rfl | exact isRefV_rf _) ?_
    refine rm_getf (pc := 6) dX11_heldIn_6 fX11_11 (by assumption) rfl ?_
    refine rj_iconst (pc := 9) dX11_heldIn_9 ?_
    refine rj_iald (pc := 10) (j := 1) dX11_heldIn_10 (by first | exact isM.g0 (by assumption) | exact isM.g3 (by assumption) | exact isM.g4 (by assumption) | exact isM.g8 (by assumption) | exact isM.g7 (by assumption) | exact isM.g6 (by assumption) | exact isM.g5 (by assumption) | exact isM.g1 (by assumption) | exact isM.g2 (by assumption)) (by first | assumption | exact b01_r | exact bz_r | omega | (constructor <;> omega) | exact hM _ | exact hPo _ | exact hTa _ | exact hRo _) (by first | assumption | exact b01_r | exact bz_r | omega | (constructor <;> omega) | exact hM _ | exact hPo _ | exact hTa _ | exact hRo _) (by first | assumption | exact b01_r | exact bz_r | omega | (constructor <;> omega) | exact hM _ | exact hPo _ | exact hTa _ | exact hRo _) rfl ?_
    refine rj_icmp_ge (pc := 11) (tgt := 55) dX11_heldIn_11 (by decide) (by first | assumption | exact b01_r | exact bz_r | omega | (constructor <;> omega) | exact hM _ | exact hPo _ | exact hTa _ | exact hRo _) (by first | assumption | exact b01_r | exact bz_r | omega | (constructor <;> omega) | exact hM _ | exact hPo _ | exact hTa _ | exact hRo _) (fun c_11 => ?_) (fun c_11 => ?_)
    · refine r_iload_n (pc := 55) dX11_heldIn_55 rfl ?_
      refine r_ireturn (pc := 56) .int dX11_heldIn_56 rfl (by first | rfl | assumption) ?_
      have e : t = N := by omega
      subst e
      exact ⟨rfl, rfl⟩
    · refine r_iload_n (pc := 14) dX11_heldIn_14 rfl ?_
      refine r_aload_n (pc := 15) dX11_heldIn_15 rfl (by first | rfl | exact isRefV_rf _) ?_
      refine r_iload_n (pc := 16) dX11_heldIn_16 rfl ?_
      refine r_callV1 (pc := 17) dX11_heldIn_17 qX11_isHeld kX11_119 vX11_isHeld (by exact isM.gx (by assumption)) rfl rfl (Nat.le_of_ble_eq_true rfl) (m_isHeld (d + 1) hB hM (by omega) (by omega)) (fun v_17 h_17 q_17 => ?_)
      obtain ⟨rfl, rfl⟩ := q_17
      refine rj_if_eq (pc := 20) (tgt := 46) dX11_heldIn_20 (by decide) (by first | assumption | exact b01_r | exact bz_r | omega | (constructor <;> omega) | exact hM _ | exact hPo _ | exact hTa _ | exact hRo _) (fun c_20 => ?_) (fun c_20 => ?_)
      · try simp only [b01_0, bz_0, Classical.not_not] at c_20
        refine rj_iconst (pc := 46) dX11_heldIn_46 ?_
        refine rj_iadd (pc := 47) dX11_heldIn_47 ?_
        refine r_istore_n (pc := 48) dX11_heldIn_48 (Nat.le_of_ble_eq_true rfl) ?_
        dsimp only [lsSt, List.set, mLs, mEnt]
        refine rj_iinc (pc := 49) dX11_heldIn_49 (Nat.le_of_ble_eq_true rfl) rfl ?_
        dsimp only [lsSt, List.set, mLs, mEnt]
        refine r_goto (pc := 52) (tgt := 4) dX11_heldIn_52 (by decide) ?_
        exfalso; omega
      · try simp only [b01_0, bz_0, Classical.not_not] at c_20
        refine r_aload_n (pc := 23) dX11_heldIn_23 rfl (by first | rfl | exact isRefV_rf _) ?_
        refine r_aload_n (pc := 24) dX11_heldIn_24 rfl (by first | rfl | exact isRefV_rf _) ?_
        refine rm_getf (pc := 25) dX11_heldIn_25 fX11_11 (by assumption) rfl ?_
        refine r_iload_n (pc := 28) dX11_heldIn_28 rfl ?_
        refine rj_iconst (pc := 29) dX11_heldIn_29 ?_
        refine rj_iconst (pc := 30) dX11_heldIn_30 ?_
        refine r_callS3 (pc := 31) dX11_heldIn_31 qX11_ofThing kX11_54 sX11_ofThing (Nat.le_of_ble_eq_true rfl) (m_ofThing (d + 2)) (fun v_31 h_31 q_31 => ?_)
        obtain ⟨rfl, rfl⟩ := q_31
        refine rj_iald (pc := 34) (j := 259 + 14 * t) dX11_heldIn_34 (by first | exact isM.g0 (by assumption) | exact isM.g3 (by assumption) | exact isM.g4 (by assumption) | exact isM.g8 (by assumption) | exact isM.g7 (by assumption) | exact isM.g6 (by assumption) | exact isM.g5 (by assumption) | exact isM.g1 (by assumption) | exact isM.g2 (by assumption)) (by first | assumption | exact b01_r | exact bz_r | omega | (constructor <;> omega) | exact hM _ | exact hPo _ | exact hTa _ | exact hRo _) (by first | assumption | exact b01_r | exact bz_r | omega | (constructor <;> omega) | exact hM _ | exact hPo _ | exact hTa _ | exact hRo _) (by first | assumption | exact b01_r | exact bz_r | omega | (constructor <;> omega) | exact hM _ | exact hPo _ | exact hTa _ | exact hRo _) (by omega) ?_
        refine r_iload_n (pc := 35) dX11_heldIn_35 rfl ?_
        refine r_callV2 (pc := 36) dX11_heldIn_36 qX11_isBelow kX11_246 vX11_isBelow (by exact isM.gx (by assumption)) rfl rfl (Nat.le_of_ble_eq_true rfl) (m_isBelow (d + 1) hB hC2 hP ha (by have := hO t (by omega); omega) (by have := hO t (by omega); omega)) (fun v_36 h_36 q_36 => ?_)
        obtain ⟨rfl, rfl⟩ := q_36
        refine rj_if_eq (pc := 39) (tgt := 46) dX11_heldIn_39 (by decide) (by first | assumption | exact b01_r | exact bz_r | omega | (constructor <;> omega) | exact hM _ | exact hPo _ | exact hTa _ | exact hRo _) (fun c_39 => ?_) (fun c_39 => ?_)
        · try simp only [b01_0, bz_0, Classical.not_not] at c_39
          refine rj_iconst (pc := 46) dX11_heldIn_46 ?_
          refine rj_iadd (pc := 47) dX11_heldIn_47 ?_
          refine r_istore_n (pc := 48) dX11_heldIn_48 (Nat.le_of_ble_eq_true rfl) ?_
          dsimp only [lsSt, List.set, mLs, mEnt]
          refine rj_iinc (pc := 49) dX11_heldIn_49 (Nat.le_of_ble_eq_true rfl) rfl ?_
          dsimp only [lsSt, List.set, mLs, mEnt]
          refine r_goto (pc := 52) (tgt := 4) dX11_heldIn_52 (by decide) ?_
          exfalso; omega
        · try simp only [b01_0, bz_0, Classical.not_not] at c_39
          refine rj_iconst (pc := 42) dX11_heldIn_42 ?_
          refine r_goto (pc := 43) (tgt := 47) dX11_heldIn_43 (by decide) ?_
          refine rj_iadd (pc := 47) dX11_heldIn_47 ?_
          refine r_istore_n (pc := 48) dX11_heldIn_48 (Nat.le_of_ble_eq_true rfl) ?_
          dsimp only [lsSt, List.set, mLs, mEnt]
          refine rj_iinc (pc := 49) dX11_heldIn_49 (Nat.le_of_ble_eq_true rfl) rfl ?_
          dsimp only [lsSt, List.set, mLs, mEnt]
          refine r_goto (pc := 52) (tgt := 4) dX11_heldIn_52 (by decide) ?_
          exfalso; omega
  | succ k ih =>
    intro t ht
    refine r_iload_n (pc := 4) dX11_heldIn_4 rfl ?_
    refine r_aload_n (pc := 5) dX11_heldIn_5 rfl (by first | rfl | exact isRefV_rf _) ?_
    refine rm_getf (pc := 6) dX11_heldIn_6 fX11_11 (by assumption) rfl ?_
    refine rj_iconst (pc := 9) dX11_heldIn_9 ?_
    refine rj_iald (pc := 10) (j := 1) dX11_heldIn_10 (by first | exact isM.g0 (by assumption) | exact isM.g3 (by assumption) | exact isM.g4 (by assumption) | exact isM.g8 (by assumption) | exact isM.g7 (by assumption) | exact isM.g6 (by assumption) | exact isM.g5 (by assumption) | exact isM.g1 (by assumption) | exact isM.g2 (by assumption)) (by first | assumption | exact b01_r | exact bz_r | omega | (constructor <;> omega) | exact hM _ | exact hPo _ | exact hTa _ | exact hRo _) (by first | assumption | exact b01_r | exact bz_r | omega | (constructor <;> omega) | exact hM _ | exact hPo _ | exact hTa _ | exact hRo _) (by first | assumption | exact b01_r | exact bz_r | omega | (constructor <;> omega) | exact hM _ | exact hPo _ | exact hTa _ | exact hRo _) rfl ?_
    refine rj_icmp_ge (pc := 11) (tgt := 55) dX11_heldIn_11 (by decide) (by first | assumption | exact b01_r | exact bz_r | omega | (constructor <;> omega) | exact hM _ | exact hPo _ | exact hTa _ | exact hRo _) (by first | assumption | exact b01_r | exact bz_r | omega | (constructor <;> omega) | exact hM _ | exact hPo _ | exact hTa _ | exact hRo _) (fun c_11 => ?_) (fun c_11 => ?_)
    · refine r_iload_n (pc := 55) dX11_heldIn_55 rfl ?_
      refine r_ireturn (pc := 56) .int dX11_heldIn_56 rfl (by first | rfl | assumption) ?_
      exfalso; omega
    · refine r_iload_n (pc := 14) dX11_heldIn_14 rfl ?_
      refine r_aload_n (pc := 15) dX11_heldIn_15 rfl (by first | rfl | exact isRefV_rf _) ?_
      refine r_iload_n (pc := 16) dX11_heldIn_16 rfl ?_
      refine r_callV1 (pc := 17) dX11_heldIn_17 qX11_isHeld kX11_119 vX11_isHeld (by exact isM.gx (by assumption)) rfl rfl (Nat.le_of_ble_eq_true rfl) (m_isHeld (d + 1) hB hM (by omega) (by omega)) (fun v_17 h_17 q_17 => ?_)
      obtain ⟨rfl, rfl⟩ := q_17
      refine rj_if_eq (pc := 20) (tgt := 46) dX11_heldIn_20 (by decide) (by first | assumption | exact b01_r | exact bz_r | omega | (constructor <;> omega) | exact hM _ | exact hPo _ | exact hTa _ | exact hRo _) (fun c_20 => ?_) (fun c_20 => ?_)
      · try simp only [b01_0, bz_0, Classical.not_not] at c_20
        refine rj_iconst (pc := 46) dX11_heldIn_46 ?_
        refine rj_iadd (pc := 47) dX11_heldIn_47 ?_
        refine r_istore_n (pc := 48) dX11_heldIn_48 (Nat.le_of_ble_eq_true rfl) ?_
        dsimp only [lsSt, List.set, mLs, mEnt]
        refine rj_iinc (pc := 49) dX11_heldIn_49 (Nat.le_of_ble_eq_true rfl) rfl ?_
        dsimp only [lsSt, List.set, mLs, mEnt]
        refine r_goto (pc := 52) (tgt := 4) dX11_heldIn_52 (by decide) ?_
        have z := ih (t + 1) (by omega)
        rw [← cnt_f (by simp only [n_held] at *; unfold heldInB heldB; simp [c_20])] at z
        exact z
      · try simp only [b01_0, bz_0, Classical.not_not] at c_20
        refine r_aload_n (pc := 23) dX11_heldIn_23 rfl (by first | rfl | exact isRefV_rf _) ?_
        refine r_aload_n (pc := 24) dX11_heldIn_24 rfl (by first | rfl | exact isRefV_rf _) ?_
        refine rm_getf (pc := 25) dX11_heldIn_25 fX11_11 (by assumption) rfl ?_
        refine r_iload_n (pc := 28) dX11_heldIn_28 rfl ?_
        refine rj_iconst (pc := 29) dX11_heldIn_29 ?_
        refine rj_iconst (pc := 30) dX11_heldIn_30 ?_
        refine r_callS3 (pc := 31) dX11_heldIn_31 qX11_ofThing kX11_54 sX11_ofThing (Nat.le_of_ble_eq_true rfl) (m_ofThing (d + 2)) (fun v_31 h_31 q_31 => ?_)
        obtain ⟨rfl, rfl⟩ := q_31
        refine rj_iald (pc := 34) (j := 259 + 14 * t) dX11_heldIn_34 (by first | exact isM.g0 (by assumption) | exact isM.g3 (by assumption) | exact isM.g4 (by assumption) | exact isM.g8 (by assumption) | exact isM.g7 (by assumption) | exact isM.g6 (by assumption) | exact isM.g5 (by assumption) | exact isM.g1 (by assumption) | exact isM.g2 (by assumption)) (by first | assumption | exact b01_r | exact bz_r | omega | (constructor <;> omega) | exact hM _ | exact hPo _ | exact hTa _ | exact hRo _) (by first | assumption | exact b01_r | exact bz_r | omega | (constructor <;> omega) | exact hM _ | exact hPo _ | exact hTa _ | exact hRo _) (by first | assumption | exact b01_r | exact bz_r | omega | (constructor <;> omega) | exact hM _ | exact hPo _ | exact hTa _ | exact hRo _) (by omega) ?_
        refine r_iload_n (pc := 35) dX11_heldIn_35 rfl ?_
        refine r_callV2 (pc := 36) dX11_heldIn_36 qX11_isBelow kX11_246 vX11_isBelow (by exact isM.gx (by assumption)) rfl rfl (Nat.le_of_ble_eq_true rfl) (m_isBelow (d + 1) hB hC2 hP ha (by have := hO t (by omega); omega) (by have := hO t (by omega); omega)) (fun v_36 h_36 q_36 => ?_)
        obtain ⟨rfl, rfl⟩ := q_36
        refine rj_if_eq (pc := 39) (tgt := 46) dX11_heldIn_39 (by decide) (by first | assumption | exact b01_r | exact bz_r | omega | (constructor <;> omega) | exact hM _ | exact hPo _ | exact hTa _ | exact hRo _) (fun c_39 => ?_) (fun c_39 => ?_)
        · try simp only [b01_0, bz_0, Classical.not_not] at c_39
          refine rj_iconst (pc := 46) dX11_heldIn_46 ?_
          refine rj_iadd (pc := 47) dX11_heldIn_47 ?_
          refine r_istore_n (pc := 48) dX11_heldIn_48 (Nat.le_of_ble_eq_true rfl) ?_
          dsimp only [lsSt, List.set, mLs, mEnt]
          refine rj_iinc (pc := 49) dX11_heldIn_49 (Nat.le_of_ble_eq_true rfl) rfl ?_
          dsimp only [lsSt, List.set, mLs, mEnt]
          refine r_goto (pc := 52) (tgt := 4) dX11_heldIn_52 (by decide) ?_
          have z := ih (t + 1) (by omega)
          rw [← cnt_f (by simp only [n_held] at *; unfold heldInB heldB; simp [c_39])] at z
          exact z
        · try simp only [b01_0, bz_0, Classical.not_not] at c_39
          refine rj_iconst (pc := 42) dX11_heldIn_42 ?_
          refine r_goto (pc := 43) (tgt := 47) dX11_heldIn_43 (by decide) ?_
          refine rj_iadd (pc := 47) dX11_heldIn_47 ?_
          refine r_istore_n (pc := 48) dX11_heldIn_48 (Nat.le_of_ble_eq_true rfl) ?_
          dsimp only [lsSt, List.set, mLs, mEnt]
          refine rj_iinc (pc := 49) dX11_heldIn_49 (Nat.le_of_ble_eq_true rfl) rfl ?_
          dsimp only [lsSt, List.set, mLs, mEnt]
          refine r_goto (pc := 52) (tgt := 4) dX11_heldIn_52 (by decide) ?_
          have z := ih (t + 1) (by omega)
          rw [← cnt_t (by simp only [n_held] at *; unfold heldInB heldB; simp [c_20, c_39])] at z
          exact z
end mg_34

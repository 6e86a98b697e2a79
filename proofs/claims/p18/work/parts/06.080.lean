section mg_31
set_option maxHeartbeats 4000000 in
set_option maxRecDepth 100000 in
theorem L_lastT {G : mG} {l : Launch} (d : Nat) {h : mH} {x s : Nat} {f4 f6 f8 f9 f10 f11 f12 f13 f14 f16 f18 : Int} {m kp was pool tape pln pap rwd rw : Nat → Int}(hB : isM h x (mFs x f4 f6 f8 f9 f10 f11 f12 f13 f14 f16 f18 s) m kp was pool tape pln pap rwd rw) (hM : ∀ q, InR (m q)) {N C : Nat} (hN : m 1 = (N : Int)) (hcap : N ≤ 90) (hC : m 0 = (C : Int)) (hC1 : 1 ≤ C) (hC2 : C ≤ 60) {a : Int} (ha : InR a) : ∀ (n t : Nat) (r : Int × Int), t + n = N → InR r.2 → RUN G l (d + 3) mX11_lastOf 8 [some (.ref x), some (.int (J a)), some (.int (J r.1)), some (.int (J r.2)), some (.int (J (t : Int)))] [] h (fun v h' => v = some (.int (J (loS m a (C - 1) 1 (loT m a n t r)).1)) ∧ h' = h) := by
  have hB0 := hB
  dsimp only [mFs] at hB
  have r1 := hM 1
  intro n
  induction n with
  | zero =>
    intro t r ht hr
    refine r_iload (pc := 8) dX11_lastOf_8 rfl ?_
    refine r_aload_n (pc := 10) dX11_lastOf_10 rfl (by first | rfl | exact isRefV_rf _) ?_
    refine rm_getf (pc := 11) dX11_lastOf_11 fX11_11 (by assumption) rfl ?_
    refine rj_iconst (pc := 14) dX11_lastOf_14 ?_
    refine rj_iald (pc := 15) (j := 1) dX11_lastOf_15 (by first | exact isM.g0 (by assumption) | exact isM.g3 (by assumption) | exact isM.g4 (by assumption) | exact isM.g8 (by assumption) | exact isM.g7 (by assumption) | exact isM.g6 (by assumption) | exact isM.g5 (by assumption) | exact isM.g1 (by assumption) | exact isM.g2 (by assumption)) (by first | assumption | exact b01_r | exact bz_r | omega | (constructor <;> omega) | exact hM _ | exact hPo _ | exact hTa _ | exact hRo _) (by first | assumption | exact b01_r | exact bz_r | omega | (constructor <;> omega) | exact hM _ | exact hPo _ | exact hTa _ | exact hRo _) (by first | assumption | exact b01_r | exact bz_r | omega | (constructor <;> omega) | exact hM _ | exact hPo _ | exact hTa _ | exact hRo _) rfl ?_
    refine rj_icmp_ge (pc := 16) (tgt := 85) dX11_lastOf_16 (by decide) (by first | assumption | exact b01_r | exact bz_r | omega | (constructor <;> omega) | exact hM _ | exact hPo _ | exact hTa _ | exact hRo _) (by first | assumption | exact b01_r | exact bz_r | omega | (constructor <;> omega) | exact hM _ | exact hPo _ | exact hTa _ | exact hRo _) (fun c_16 => ?_) (fun c_16 => ?_)
    · refine rj_iconst (pc := 85) dX11_lastOf_85 ?_
      refine r_istore (pc := 86) dX11_lastOf_86 (Nat.le_of_ble_eq_true rfl) ?_
      dsimp only [lsSt, List.set, mLs, mEnt]
      exact L_lastS d hB0 hM hN hcap hC hC1 hC2 ha (C - 1) 1 r (by omega) hr
    · exfalso; omega
  | succ n ih =>
    intro t r ht hr
    have r2 := hM (260 + 14 * t)
    refine r_iload (pc := 8) dX11_lastOf_8 rfl ?_
    refine r_aload_n (pc := 10) dX11_lastOf_10 rfl (by first | rfl | exact isRefV_rf _) ?_
    refine rm_getf (pc := 11) dX11_lastOf_11 fX11_11 (by assumption) rfl ?_
    refine rj_iconst (pc := 14) dX11_lastOf_14 ?_
    refine rj_iald (pc := 15) (j := 1) dX11_lastOf_15 (by first | exact isM.g0 (by assumption) | exact isM.g3 (by assumption) | exact isM.g4 (by assumption) | exact isM.g8 (by assumption) | exact isM.g7 (by assumption) | exact isM.g6 (by assumption) | exact isM.g5 (by assumption) | exact isM.g1 (by assumption) | exact isM.g2 (by assumption)) (by first | assumption | exact b01_r | exact bz_r | omega | (constructor <;> omega) | exact hM _ | exact hPo _ | exact hTa _ | exact hRo _) (by first | assumption | exact b01_r | exact bz_r | omega | (constructor <;> omega) | exact hM _ | exact hPo _ | exact hTa _ | exact hRo _) (by first | assumption | exact b01_r | exact bz_r | omega | (constructor <;> omega) | exact hM _ | exact hPo _ | exact hTa _ | exact hRo _) rfl ?_
    refine rj_icmp_ge (pc := 16) (tgt := 85) dX11_lastOf_16 (by decide) (by first | assumption | exact b01_r | exact bz_r | omega | (constructor <;> omega) | exact hM _ | exact hPo _ | exact hTa _ | exact hRo _) (by first | assumption | exact b01_r | exact bz_r | omega | (constructor <;> omega) | exact hM _ | exact hPo _ | exact hTa _ | exact hRo _) (fun c_16 => ?_) (fun c_16 => ?_)
    · refine rj_iconst (pc := 85) dX11_lastOf_85 ?_
      refine r_istore (pc := 86) dX11_lastOf_86 (Nat.le_of_ble_eq_true rfl) ?_
      dsimp only [lsSt, List.set, mLs, mEnt]
      exfalso; omega
    · refine r_aload_n (pc := 19) dX11_lastOf_19 rfl (by first | rfl | exact isRefV_rf _) ?_
      refine r_iload (pc := 20) dX11_lastOf_20 rfl ?_
      refine r_callV1 (pc := 22) dX11_lastOf_22 qX11_isHeld kX11_119 vX11_isHeld (by exact isM.gx (by assumption)) rfl rfl (Nat.le_of_ble_eq_true rfl) (m_isHeld (d + 1) hB hM (by omega) (by omega)) (fun v_22 h_22 q_22 => ?_)
      obtain ⟨rfl, rfl⟩ := q_22
      refine rj_if_eq (pc := 25) (tgt := 79) dX11_lastOf_25 (by decide) (by first | assumption | exact b01_r | exact bz_r | omega | (constructor <;> omega) | exact hM _ | exact hPo _ | exact hTa _ | exact hRo _) (fun c_25 => ?_) (fun c_25 => ?_)
      · try simp only [b01_0, bz_0, Classical.not_not] at c_25
        refine rj_iinc (pc := 79) dX11_lastOf_79 (Nat.le_of_ble_eq_true rfl) rfl ?_
        dsimp only [lsSt, List.set, mLs, mEnt]
        refine r_goto (pc := 82) (tgt := 8) dX11_lastOf_82 (by decide) ?_
        have z := ih (t + 1) r (by omega) hr
        rw [loT, if_neg (fun g => c_25 (by have := g.1; simp only [heldB, decide_eq_true_eq] at this; rw [n_held]; exact this))]
        exact z
      · try simp only [b01_0, bz_0, Classical.not_not] at c_25
        refine r_aload_n (pc := 28) dX11_lastOf_28 rfl (by first | rfl | exact isRefV_rf _) ?_
        refine rm_getf (pc := 29) dX11_lastOf_29 fX11_11 (by assumption) rfl ?_
        refine r_iload (pc := 32) dX11_lastOf_32 rfl ?_
        refine rj_iconst (pc := 34) dX11_lastOf_34 ?_
        refine rj_iconst (pc := 35) dX11_lastOf_35 ?_
        refine r_callS3 (pc := 36) dX11_lastOf_36 qX11_ofThing kX11_54 sX11_ofThing (Nat.le_of_ble_eq_true rfl) (m_ofThing (d + 2)) (fun v_36 h_36 q_36 => ?_)
        obtain ⟨rfl, rfl⟩ := q_36
        refine rj_iald (pc := 39) (j := 259 + 14 * t) dX11_lastOf_39 (by first | exact isM.g0 (by assumption) | exact isM.g3 (by assumption) | exact isM.g4 (by assumption) | exact isM.g8 (by assumption) | exact isM.g7 (by assumption) | exact isM.g6 (by assumption) | exact isM.g5 (by assumption) | exact isM.g1 (by assumption) | exact isM.g2 (by assumption)) (by first | assumption | exact b01_r | exact bz_r | omega | (constructor <;> omega) | exact hM _ | exact hPo _ | exact hTa _ | exact hRo _) (by first | assumption | exact b01_r | exact bz_r | omega | (constructor <;> omega) | exact hM _ | exact hPo _ | exact hTa _ | exact hRo _) (by first | assumption | exact b01_r | exact bz_r | omega | (constructor <;> omega) | exact hM _ | exact hPo _ | exact hTa _ | exact hRo _) (by omega) ?_
        refine r_iload_n (pc := 40) dX11_lastOf_40 rfl ?_
        refine rj_icmp_ne (pc := 41) (tgt := 79) dX11_lastOf_41 (by decide) (by first | assumption | exact b01_r | exact bz_r | omega | (constructor <;> omega) | exact hM _ | exact hPo _ | exact hTa _ | exact hRo _) (by first | assumption | exact b01_r | exact bz_r | omega | (constructor <;> omega) | exact hM _ | exact hPo _ | exact hTa _ | exact hRo _) (fun c_41 => ?_) (fun c_41 => ?_)
        · refine rj_iinc (pc := 79) dX11_lastOf_79 (Nat.le_of_ble_eq_true rfl) rfl ?_
          dsimp only [lsSt, List.set, mLs, mEnt]
          refine r_goto (pc := 82) (tgt := 8) dX11_lastOf_82 (by decide) ?_
          have z := ih (t + 1) r (by omega) hr
          rw [loT, if_neg (fun g => c_41 g.2.1)]
          exact z
        · refine r_aload_n (pc := 44) dX11_lastOf_44 rfl (by first | rfl | exact isRefV_rf _) ?_
          refine rm_getf (pc := 45) dX11_lastOf_45 fX11_11 (by assumption) rfl ?_
          refine r_iload (pc := 48) dX11_lastOf_48 rfl ?_
          refine rj_iconst (pc := 50) dX11_lastOf_50 ?_
          refine rj_iconst (pc := 51) dX11_lastOf_51 ?_
          refine r_callS3 (pc := 52) dX11_lastOf_52 qX11_ofThing kX11_54 sX11_ofThing (Nat.le_of_ble_eq_true rfl) (m_ofThing (d + 2)) (fun v_52 h_52 q_52 => ?_)
          obtain ⟨rfl, rfl⟩ := q_52
          refine rj_iald (pc := 55) (j := 260 + 14 * t) dX11_lastOf_55 (by first | exact isM.g0 (by assumption) | exact isM.g3 (by assumption) | exact isM.g4 (by assumption) | exact isM.g8 (by assumption) | exact isM.g7 (by assumption) | exact isM.g6 (by assumption) | exact isM.g5 (by assumption) | exact isM.g1 (by assumption) | exact isM.g2 (by assumption)) (by first | assumption | exact b01_r | exact bz_r | omega | (constructor <;> omega) | exact hM _ | exact hPo _ | exact hTa _ | exact hRo _) (by first | assumption | exact b01_r | exact bz_r | omega | (constructor <;> omega) | exact hM _ | exact hPo _ | exact hTa _ | exact hRo _) (by first | assumption | exact b01_r | exact bz_r | omega | (constructor <;> omega) | exact hM _ | exact hPo _ | exact hTa _ | exact hRo _) (by omega) ?_
          refine r_iload_n (pc := 56) dX11_lastOf_56 rfl ?_
          refine rj_icmp_ge (pc := 57) (tgt := 63) dX11_lastOf_57 (by decide) (by first | assumption | exact b01_r | exact bz_r | omega | (constructor <;> omega) | exact hM _ | exact hPo _ | exact hTa _ | exact hRo _) (by first | assumption | exact b01_r | exact bz_r | omega | (constructor <;> omega) | exact hM _ | exact hPo _ | exact hTa _ | exact hRo _) (fun c_57 => ?_) (fun c_57 => ?_)
          · refine r_iload (pc := 63) dX11_lastOf_63 rfl ?_
            refine r_istore_n (pc := 65) dX11_lastOf_65 (Nat.le_of_ble_eq_true rfl) ?_
            dsimp only [lsSt, List.set, mLs, mEnt]
            refine r_aload_n (pc := 66) dX11_lastOf_66 rfl (by first | rfl | exact isRefV_rf _) ?_
            refine rm_getf (pc := 67) dX11_lastOf_67 fX11_11 (by assumption) rfl ?_
            refine r_iload (pc := 70) dX11_lastOf_70 rfl ?_
            refine rj_iconst (pc := 72) dX11_lastOf_72 ?_
            refine rj_iconst (pc := 73) dX11_lastOf_73 ?_
            refine r_callS3 (pc := 74) dX11_lastOf_74 qX11_ofThing kX11_54 sX11_ofThing (Nat.le_of_ble_eq_true rfl) (m_ofThing (d + 2)) (fun v_74 h_74 q_74 => ?_)
            obtain ⟨rfl, rfl⟩ := q_74
            refine rj_iald (pc := 77) (j := 260 + 14 * t) dX11_lastOf_77 (by first | exact isM.g0 (by assumption) | exact isM.g3 (by assumption) | exact isM.g4 (by assumption) | exact isM.g8 (by assumption) | exact isM.g7 (by assumption) | exact isM.g6 (by assumption) | exact isM.g5 (by assumption) | exact isM.g1 (by assumption) | exact isM.g2 (by assumption)) (by first | assumption | exact b01_r | exact bz_r | omega | (constructor <;> omega) | exact hM _ | exact hPo _ | exact hTa _ | exact hRo _) (by first | assumption | exact b01_r | exact bz_r | omega | (constructor <;> omega) | exact hM _ | exact hPo _ | exact hTa _ | exact hRo _) (by first | assumption | exact b01_r | exact bz_r | omega | (constructor <;> omega) | exact hM _ | exact hPo _ | exact hTa _ | exact hRo _) (by omega) ?_
            refine r_istore_n (pc := 78) dX11_lastOf_78 (Nat.le_of_ble_eq_true rfl) ?_
            dsimp only [lsSt, List.set, mLs, mEnt]
            refine rj_iinc (pc := 79) dX11_lastOf_79 (Nat.le_of_ble_eq_true rfl) rfl ?_
            dsimp only [lsSt, List.set, mLs, mEnt]
            refine r_goto (pc := 82) (tgt := 8) dX11_lastOf_82 (by decide) ?_
            have z := ih (t + 1) ((t : Int), m (260 + 14 * t)) (by omega) (hM _)
            rw [loT, if_pos ⟨by simp only [heldB, decide_eq_true_eq]; rw [n_held] at c_25; exact c_25, c_41, c_57⟩]
            exact z
          · refine r_goto (pc := 60) (tgt := 79) dX11_lastOf_60 (by decide) ?_
            refine rj_iinc (pc := 79) dX11_lastOf_79 (Nat.le_of_ble_eq_true rfl) rfl ?_
            dsimp only [lsSt, List.set, mLs, mEnt]
            refine r_goto (pc := 82) (tgt := 8) dX11_lastOf_82 (by decide) ?_
            have z := ih (t + 1) r (by omega) hr
            rw [loT, if_neg (fun g => c_57 g.2.2)]
            exact z
end mg_31

section mg_40
set_option maxHeartbeats 4000000 in
set_option maxRecDepth 100000 in
theorem L_youngest {G : mG} {l : Launch} (d : Nat) {h : mH} {x s : Nat} {f4 f6 f8 f9 f10 f11 f12 f13 f14 f16 f18 : Int} {m kp was pool tape pln pap rwd rw : Nat → Int}(hB : isM h x (mFs x f4 f6 f8 f9 f10 f11 f12 f13 f14 f16 f18 s) m kp was pool tape pln pap rwd rw) (hM : ∀ q, InR (m q)) {N C : Nat} (hN : m 1 = (N : Int)) (hcap : N ≤ 90) (hC : m 0 = (C : Int)) (hC2 : C ≤ 60) (hP : parOk m C) (hO : ownOk m N C) {a : Int} (ha : InR a) : ∀ (n t : Nat) (f : Int), t + n = N → RUN G l (d + 3) mX11_youngest 15 [some (.ref x), some (.int (J a)), some (.int (J f)), some (.int (J (t : Int)))] [] h (fun v h' => v = some (.int (J (ygL m C a n t f))) ∧ h' = h) := by
  dsimp only [mFs] at hB
  have r1 := hM 1
  intro n
  induction n with
  | zero =>
    intro t f ht
    refine r_iload_n (pc := 15) dX11_youngest_15 rfl ?_
    refine r_aload_n (pc := 16) dX11_youngest_16 rfl (by first | rfl | exact isRefV_rf _) ?_
    refine rm_getf (pc := 17) dX11_youngest_17 fX11_11 (by assumption) rfl ?_
    refine rj_iconst (pc := 20) dX11_youngest_20 ?_
    refine rj_iald (pc := 21) (j := 1) dX11_youngest_21 (by first | exact isM.g0 (by assumption) | exact isM.g3 (by assumption) | exact isM.g4 (by assumption) | exact isM.g8 (by assumption) | exact isM.g7 (by assumption) | exact isM.g6 (by assumption) | exact isM.g5 (by assumption) | exact isM.g1 (by assumption) | exact isM.g2 (by assumption)) (by first | assumption | exact b01_r | exact bz_r | omega | (constructor <;> omega) | exact hM _ | exact hPo _ | exact hTa _ | exact hRo _) (by first | assumption | exact b01_r | exact bz_r | omega | (constructor <;> omega) | exact hM _ | exact hPo _ | exact hTa _ | exact hRo _) (by first | assumption | exact b01_r | exact bz_r | omega | (constructor <;> omega) | exact hM _ | exact hPo _ | exact hTa _ | exact hRo _) rfl ?_
    refine rj_icmp_ge (pc := 22) (tgt := 60) dX11_youngest_22 (by decide) (by first | assumption | exact b01_r | exact bz_r | omega | (constructor <;> omega) | exact hM _ | exact hPo _ | exact hTa _ | exact hRo _) (by first | assumption | exact b01_r | exact bz_r | omega | (constructor <;> omega) | exact hM _ | exact hPo _ | exact hTa _ | exact hRo _) (fun c_22 => ?_) (fun c_22 => ?_)
    · refine r_iload_n (pc := 60) dX11_youngest_60 rfl ?_
      refine r_ireturn (pc := 61) .int dX11_youngest_61 rfl (by first | rfl | assumption) ?_
      exact ⟨rfl, rfl⟩
    · exfalso; omega
  | succ n ih =>
    intro t f ht
    refine r_iload_n (pc := 15) dX11_youngest_15 rfl ?_
    refine r_aload_n (pc := 16) dX11_youngest_16 rfl (by first | rfl | exact isRefV_rf _) ?_
    refine rm_getf (pc := 17) dX11_youngest_17 fX11_11 (by assumption) rfl ?_
    refine rj_iconst (pc := 20) dX11_youngest_20 ?_
    refine rj_iald (pc := 21) (j := 1) dX11_youngest_21 (by first | exact isM.g0 (by assumption) | exact isM.g3 (by assumption) | exact isM.g4 (by assumption) | exact isM.g8 (by assumption) | exact isM.g7 (by assumption) | exact isM.g6 (by assumption) | exact isM.g5 (by assumption) | exact isM.g1 (by assumption) | exact isM.g2 (by assumption)) (by first | assumption | exact b01_r | exact bz_r | omega | (constructor <;> omega) | exact hM _ | exact hPo _ | exact hTa _ | exact hRo _) (by first | assumption | exact b01_r | exact bz_r | omega | (constructor <;> omega) | exact hM _ | exact hPo _ | exact hTa _ | exact hRo _) (by first | assumption | exact b01_r | exact bz_r | omega | (constructor <;> omega) | exact hM _ | exact hPo _ | exact hTa _ | exact hRo _) rfl ?_
    refine rj_icmp_ge (pc := 22) (tgt := 60) dX11_youngest_22 (by decide) (by first | assumption | exact b01_r | exact bz_r | omega | (constructor <;> omega) | exact hM _ | exact hPo _ | exact hTa _ | exact hRo _) (by first | assumption | exact b01_r | exact bz_r | omega | (constructor <;> omega) | exact hM _ | exact hPo _ | exact hTa _ | exact hRo _) (fun c_22 => ?_) (fun c_22 => ?_)
    · refine r_iload_n (pc := 60) dX11_youngest_60 rfl ?_
      refine r_ireturn (pc := 61) .int dX11_youngest_61 rfl (by first | rfl | assumption) ?_
      exfalso; omega
    · refine r_aload_n (pc := 25) dX11_youngest_25 rfl (by first | rfl | exact isRefV_rf _) ?_
      refine r_iload_n (pc := 26) dX11_youngest_26 rfl ?_
      refine r_callV1 (pc := 27) dX11_youngest_27 qX11_isHeld kX11_119 vX11_isHeld (by exact isM.gx (by assumption)) rfl rfl (Nat.le_of_ble_eq_true rfl) (m_isHeld (d + 1) hB hM (by omega) (by omega)) (fun v_27 h_27 q_27 => ?_)
      obtain ⟨rfl, rfl⟩ := q_27
      refine rj_if_eq (pc := 30) (tgt := 54) dX11_youngest_30 (by decide) (by first | assumption | exact b01_r | exact bz_r | omega | (constructor <;> omega) | exact hM _ | exact hPo _ | exact hTa _ | exact hRo _) (fun c_30 => ?_) (fun c_30 => ?_)
      · try simp only [b01_0, bz_0, Classical.not_not] at c_30
        refine rj_iinc (pc := 54) dX11_youngest_54 (Nat.le_of_ble_eq_true rfl) rfl ?_
        dsimp only [lsSt, List.set, mLs, mEnt]
        refine r_goto (pc := 57) (tgt := 15) dX11_youngest_57 (by decide) ?_
        have z := ih (t + 1) f (by omega)
        rw [ygL, if_neg (by simp only [n_held] at *; unfold heldInB heldB; simp [c_30])]
        exact z
      · try simp only [b01_0, bz_0, Classical.not_not] at c_30
        refine r_aload_n (pc := 33) dX11_youngest_33 rfl (by first | rfl | exact isRefV_rf _) ?_
        refine r_aload_n (pc := 34) dX11_youngest_34 rfl (by first | rfl | exact isRefV_rf _) ?_
        refine rm_getf (pc := 35) dX11_youngest_35 fX11_11 (by assumption) rfl ?_
        refine r_iload_n (pc := 38) dX11_youngest_38 rfl ?_
        refine rj_iconst (pc := 39) dX11_youngest_39 ?_
        refine rj_iconst (pc := 40) dX11_youngest_40 ?_
        refine r_callS3 (pc := 41) dX11_youngest_41 qX11_ofThing kX11_54 sX11_ofThing (Nat.le_of_ble_eq_true rfl) (m_ofThing (d + 2)) (fun v_41 h_41 q_41 => ?_)
        obtain ⟨rfl, rfl⟩ := q_41
        refine rj_iald (pc := 44) (j := 259 + 14 * t) dX11_youngest_44 (by first | exact isM.g0 (by assumption) | exact isM.g3 (by assumption) | exact isM.g4 (by assumption) | exact isM.g8 (by assumption) | exact isM.g7 (by assumption) | exact isM.g6 (by assumption) | exact isM.g5 (by assumption) | exact isM.g1 (by assumption) | exact isM.g2 (by assumption)) (by first | assumption | exact b01_r | exact bz_r | omega | (constructor <;> omega) | exact hM _ | exact hPo _ | exact hTa _ | exact hRo _) (by first | assumption | exact b01_r | exact bz_r | omega | (constructor <;> omega) | exact hM _ | exact hPo _ | exact hTa _ | exact hRo _) (by first | assumption | exact b01_r | exact bz_r | omega | (constructor <;> omega) | exact hM _ | exact hPo _ | exact hTa _ | exact hRo _) (by omega) ?_
        refine r_iload_n (pc := 45) dX11_youngest_45 rfl ?_
        refine r_callV2 (pc := 46) dX11_youngest_46 qX11_isBelow kX11_246 vX11_isBelow (by exact isM.gx (by assumption)) rfl rfl (Nat.le_of_ble_eq_true rfl) (m_isBelow (d + 1) hB hC2 hP ha (by have := hO t (by omega); omega) (by have := hO t (by omega); omega)) (fun v_46 h_46 q_46 => ?_)
        obtain ⟨rfl, rfl⟩ := q_46
        refine rj_if_eq (pc := 49) (tgt := 54) dX11_youngest_49 (by decide) (by first | assumption | exact b01_r | exact bz_r | omega | (constructor <;> omega) | exact hM _ | exact hPo _ | exact hTa _ | exact hRo _) (fun c_49 => ?_) (fun c_49 => ?_)
        · try simp only [b01_0, bz_0, Classical.not_not] at c_49
          refine rj_iinc (pc := 54) dX11_youngest_54 (Nat.le_of_ble_eq_true rfl) rfl ?_
          dsimp only [lsSt, List.set, mLs, mEnt]
          refine r_goto (pc := 57) (tgt := 15) dX11_youngest_57 (by decide) ?_
          have z := ih (t + 1) f (by omega)
          rw [ygL, if_neg (by simp only [n_held] at *; unfold heldInB heldB; simp [c_49])]
          exact z
        · try simp only [b01_0, bz_0, Classical.not_not] at c_49
          refine r_iload_n (pc := 52) dX11_youngest_52 rfl ?_
          refine r_istore_n (pc := 53) dX11_youngest_53 (Nat.le_of_ble_eq_true rfl) ?_
          dsimp only [lsSt, List.set, mLs, mEnt]
          refine rj_iinc (pc := 54) dX11_youngest_54 (Nat.le_of_ble_eq_true rfl) rfl ?_
          dsimp only [lsSt, List.set, mLs, mEnt]
          refine r_goto (pc := 57) (tgt := 15) dX11_youngest_57 (by decide) ?_
          have z := ih (t + 1) (t : Int) (by omega)
          rw [ygL, if_pos (by simp only [n_held] at *; unfold heldInB heldB; simp [c_30, c_49])]
          exact z
end mg_40

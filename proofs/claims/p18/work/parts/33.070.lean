section mg_44
set_option maxHeartbeats 4000000 in
set_option maxRecDepth 100000 in
theorem L_ready {G : mG} {l : Launch} (d : Nat) {h : mH} {x s : Nat} {f4 f6 f8 f9 f10 f11 f12 f13 f14 f16 f18 : Int} {m kp was pool tape pln pap rwd rw : Nat → Int}(hB : isM h x (mFs x f4 f6 f8 f9 f10 f11 f12 f13 f14 f16 f18 s) m kp was pool tape pln pap rwd rw) (hM : ∀ q, InR (m q)) {T : Nat} (hT : m 3 = (T : Int)) (hT2 : T ≤ 10) (hP : ∀ t, t < T → -99 ≤ m (1609 + 72 * t) ∧ m (1609 + 72 * t) ≤ 99) {k : Int} (hk : InR k) : ∀ (n i : Nat) (e1 e2 : Option Value), i + n = T → RUN G l (d + 3) mX11_ready 8 [some (.ref x), some (.int (J k)), some (.int (J (i : Int))), e1, e2] [] h (fun v h' => v = some (.int (J (rdO m T k n i))) ∧ h' = h) := by
  have hB0 := hB
  dsimp only [mFs] at hB
  have r3 := hM 3
  intro n
  induction n with
  | zero =>
    intro i e1 e2 hi
    refine r_iload_n (pc := 8) dX11_ready_8 rfl ?_
    refine r_aload_n (pc := 9) dX11_ready_9 rfl (by first | rfl | exact isRefV_rf _) ?_
    refine rm_getf (pc := 10) dX11_ready_10 fX11_11 (by assumption) rfl ?_
    refine rj_iconst (pc := 13) dX11_ready_13 ?_
    refine rj_iald (pc := 14) (j := 3) dX11_ready_14 (by first | exact isM.g0 (by assumption) | exact isM.g3 (by assumption) | exact isM.g4 (by assumption) | exact isM.g8 (by assumption) | exact isM.g7 (by assumption) | exact isM.g6 (by assumption) | exact isM.g5 (by assumption) | exact isM.g1 (by assumption) | exact isM.g2 (by assumption)) (by first | assumption | exact b01_r | exact bz_r | omega | (constructor <;> omega) | exact hM _ | exact hPo _ | exact hTa _ | exact hRo _) (by first | assumption | exact b01_r | exact bz_r | omega | (constructor <;> omega) | exact hM _ | exact hPo _ | exact hTa _ | exact hRo _) (by first | assumption | exact b01_r | exact bz_r | omega | (constructor <;> omega) | exact hM _ | exact hPo _ | exact hTa _ | exact hRo _) rfl ?_
    refine rj_icmp_ge (pc := 15) (tgt := 94) dX11_ready_15 (by decide) (by first | assumption | exact b01_r | exact bz_r | omega | (constructor <;> omega) | exact hM _ | exact hPo _ | exact hTa _ | exact hRo _) (by first | assumption | exact b01_r | exact bz_r | omega | (constructor <;> omega) | exact hM _ | exact hPo _ | exact hTa _ | exact hRo _) (fun c_15 => ?_) (fun c_15 => ?_)
    · refine rj_bipush (pc := 94) dX11_ready_94 (by decide +kernel) ?_
      refine r_ireturn (pc := 96) .int dX11_ready_96 rfl (by first | rfl | assumption) ?_
      exact ⟨rfl, rfl⟩
    · exfalso; omega
  | succ n ih =>
    intro i e1 e2 hi
    have rc := cnt_r (rdB m i) T
    refine r_iload_n (pc := 8) dX11_ready_8 rfl ?_
    refine r_aload_n (pc := 9) dX11_ready_9 rfl (by first | rfl | exact isRefV_rf _) ?_
    refine rm_getf (pc := 10) dX11_ready_10 fX11_11 (by assumption) rfl ?_
    refine rj_iconst (pc := 13) dX11_ready_13 ?_
    refine rj_iald (pc := 14) (j := 3) dX11_ready_14 (by first | exact isM.g0 (by assumption) | exact isM.g3 (by assumption) | exact isM.g4 (by assumption) | exact isM.g8 (by assumption) | exact isM.g7 (by assumption) | exact isM.g6 (by assumption) | exact isM.g5 (by assumption) | exact isM.g1 (by assumption) | exact isM.g2 (by assumption)) (by first | assumption | exact b01_r | exact bz_r | omega | (constructor <;> omega) | exact hM _ | exact hPo _ | exact hTa _ | exact hRo _) (by first | assumption | exact b01_r | exact bz_r | omega | (constructor <;> omega) | exact hM _ | exact hPo _ | exact hTa _ | exact hRo _) (by first | assumption | exact b01_r | exact bz_r | omega | (constructor <;> omega) | exact hM _ | exact hPo _ | exact hTa _ | exact hRo _) rfl ?_
    refine rj_icmp_ge (pc := 15) (tgt := 94) dX11_ready_15 (by decide) (by first | assumption | exact b01_r | exact bz_r | omega | (constructor <;> omega) | exact hM _ | exact hPo _ | exact hTa _ | exact hRo _) (by first | assumption | exact b01_r | exact bz_r | omega | (constructor <;> omega) | exact hM _ | exact hPo _ | exact hTa _ | exact hRo _) (fun c_15 => ?_) (fun c_15 => ?_)
    · refine rj_bipush (pc := 94) dX11_ready_94 (by decide +kernel) ?_
      refine r_ireturn (pc := 96) .int dX11_ready_96 rfl (by first | rfl | assumption) ?_
      exfalso; omega
    · refine rj_iconst (pc := 18) dX11_ready_18 ?_
      refine r_istore_n (pc := 19) dX11_ready_19 (Nat.le_of_ble_eq_true rfl) ?_
      dsimp only [lsSt, List.set, mLs, mEnt]
      refine rj_iconst (pc := 20) dX11_ready_20 ?_
      refine r_istore (pc := 21) dX11_ready_21 (Nat.le_of_ble_eq_true rfl) ?_
      dsimp only [lsSt, List.set, mLs, mEnt]
      have K : RUN G l (d + 3) mX11_ready 73 [some (.ref x), some (.int (J k)), some (.int (J (i : Int))), some (.int (J (cnt (rdB m i) T))), some (.int (J ((T : Int))))] [] h (fun v h' => v = some (.int (J (rdO m T k (n + 1) i))) ∧ h' = h) := by
            refine r_aload_n (pc := 73) dX11_ready_73 rfl (by first | rfl | exact isRefV_rf _) ?_
            refine r_iload_n (pc := 74) dX11_ready_74 rfl ?_
            refine r_callV1 (pc := 75) dX11_ready_75 qX11_isReady kX11_183 vX11_isReady (by exact isM.gx (by assumption)) rfl rfl (Nat.le_of_ble_eq_true rfl) (m_isReady (d + 1) hB0 hM (by omega) (by omega)) (fun v_75 h_75 q_75 => ?_)
            obtain ⟨rfl, rfl⟩ := q_75
            refine rj_if_eq (pc := 78) (tgt := 88) dX11_ready_78 (by decide) (by first | assumption | exact b01_r | exact bz_r | omega | (constructor <;> omega) | exact hM _ | exact hPo _ | exact hTa _ | exact hRo _) (fun c_78 => ?_) (fun c_78 => ?_)
            · try simp only [b01_0, bz_0, Classical.not_not] at c_78
              refine rj_iinc (pc := 88) dX11_ready_88 (Nat.le_of_ble_eq_true rfl) rfl ?_
              dsimp only [lsSt, List.set, mLs, mEnt]
              refine r_goto (pc := 91) (tgt := 8) dX11_ready_91 (by decide) ?_
              have z := ih (i + 1) (some (.int (J (cnt (rdB m i) T)))) (some (.int (J (T : Int)))) (by omega)
              rw [rdO, if_neg (fun g => c_78 (by have := g.1; simp only [readyB, decide_eq_true_eq] at this; rw [n_ready]; exact this))]
              exact z
            · try simp only [b01_0, bz_0, Classical.not_not] at c_78
              refine r_iload_n (pc := 81) dX11_ready_81 rfl ?_
              refine r_iload_n (pc := 82) dX11_ready_82 rfl ?_
              refine rj_icmp_ne (pc := 83) (tgt := 88) dX11_ready_83 (by decide) (by first | assumption | exact b01_r | exact bz_r | omega | (constructor <;> omega) | exact hM _ | exact hPo _ | exact hTa _ | exact hRo _) (by first | assumption | exact b01_r | exact bz_r | omega | (constructor <;> omega) | exact hM _ | exact hPo _ | exact hTa _ | exact hRo _) (fun c_83 => ?_) (fun c_83 => ?_)
              · refine rj_iinc (pc := 88) dX11_ready_88 (Nat.le_of_ble_eq_true rfl) rfl ?_
                dsimp only [lsSt, List.set, mLs, mEnt]
                refine r_goto (pc := 91) (tgt := 8) dX11_ready_91 (by decide) ?_
                have z := ih (i + 1) (some (.int (J (cnt (rdB m i) T)))) (some (.int (J (T : Int)))) (by omega)
                rw [rdO, if_neg (fun g => c_83 g.2)]
                exact z
              · refine r_iload_n (pc := 86) dX11_ready_86 rfl ?_
                refine r_ireturn (pc := 87) .int dX11_ready_87 rfl (by first | rfl | assumption) ?_
                exact ⟨by rw [rdO, if_pos ⟨by simp only [readyB, decide_eq_true_eq]; rw [n_ready] at c_78; exact c_78, c_83⟩], rfl⟩
      exact L_readyI d hB0 hM hT hT2 hP hk (i := i) (by omega) K T 0 (by omega)
end mg_44

section mg_31
set_option maxHeartbeats 4000000 in
set_option maxRecDepth 100000 in
theorem L_next {G : mG} {l : Launch} (d : Nat) {h : mH} {x s : Nat} {f4 f6 f8 f9 f10 f11 f12 f13 f14 f16 f18 : Int} {m kp was pool tape pln pap rwd rw : Nat → Int}(hB : isM h x (mFs x f4 f6 f8 f9 f10 f11 f12 f13 f14 f16 f18 s) m kp was pool tape pln pap rwd rw) (hM : ∀ q, InR (m q)) {N : Nat} (hN : m 3 = (N : Int)) (hcap : N ≤ 10) (hP : ∀ t, t < N → -99 ≤ m (1609 + 72 * t) ∧ m (1609 + 72 * t) ≤ 99) : ∀ (n t : Nat) (f : Int), t + n = N → f < t → -5 ≤ f → RUN G l (d + 3) mX11_next 5 [some (.ref x), some (.int (J f)), some (.int (J (t : Int)))] [] h (fun v h' => v = some (.int (J (nxL m n t f))) ∧ h' = h) := by
  dsimp only [mFs] at hB
  have r1 := hM 3
  intro n
  induction n with
  | zero =>
    intro t f ht hf hf2
    refine r_iload_n (pc := 5) dX11_next_5 rfl ?_
    refine r_aload_n (pc := 6) dX11_next_6 rfl (by first | rfl | exact isRefV_rf _) ?_
    refine rm_getf (pc := 7) dX11_next_7 fX11_11 (by assumption) rfl ?_
    refine rj_iconst (pc := 10) dX11_next_10 ?_
    refine rj_iald (pc := 11) (j := 3) dX11_next_11 (by first | exact isM.g0 (by assumption) | exact isM.g3 (by assumption) | exact isM.g4 (by assumption) | exact isM.g8 (by assumption) | exact isM.g7 (by assumption) | exact isM.g6 (by assumption) | exact isM.g5 (by assumption) | exact isM.g1 (by assumption) | exact isM.g2 (by assumption)) (by first | assumption | exact b01_r | exact bz_r | omega | (constructor <;> omega) | exact hM _ | exact hPo _ | exact hTa _ | exact hRo _) (by first | assumption | exact b01_r | exact bz_r | omega | (constructor <;> omega) | exact hM _ | exact hPo _ | exact hTa _ | exact hRo _) (by first | assumption | exact b01_r | exact bz_r | omega | (constructor <;> omega) | exact hM _ | exact hPo _ | exact hTa _ | exact hRo _) rfl ?_
    refine rj_icmp_ge (pc := 12) (tgt := 44) dX11_next_12 (by decide) (by first | assumption | exact b01_r | exact bz_r | omega | (constructor <;> omega) | exact hM _ | exact hPo _ | exact hTa _ | exact hRo _) (by first | assumption | exact b01_r | exact bz_r | omega | (constructor <;> omega) | exact hM _ | exact hPo _ | exact hTa _ | exact hRo _) (fun c_12 => ?_) (fun c_12 => ?_)
    · refine r_iload_n (pc := 44) dX11_next_44 rfl ?_
      refine r_ireturn (pc := 45) .int dX11_next_45 rfl (by first | rfl | assumption) ?_
      exact ⟨rfl, rfl⟩
    · exfalso; omega
  | succ n ih =>
    intro t f ht hf hf2
    refine r_iload_n (pc := 5) dX11_next_5 rfl ?_
    refine r_aload_n (pc := 6) dX11_next_6 rfl (by first | rfl | exact isRefV_rf _) ?_
    refine rm_getf (pc := 7) dX11_next_7 fX11_11 (by assumption) rfl ?_
    refine rj_iconst (pc := 10) dX11_next_10 ?_
    refine rj_iald (pc := 11) (j := 3) dX11_next_11 (by first | exact isM.g0 (by assumption) | exact isM.g3 (by assumption) | exact isM.g4 (by assumption) | exact isM.g8 (by assumption) | exact isM.g7 (by assumption) | exact isM.g6 (by assumption) | exact isM.g5 (by assumption) | exact isM.g1 (by assumption) | exact isM.g2 (by assumption)) (by first | assumption | exact b01_r | exact bz_r | omega | (constructor <;> omega) | exact hM _ | exact hPo _ | exact hTa _ | exact hRo _) (by first | assumption | exact b01_r | exact bz_r | omega | (constructor <;> omega) | exact hM _ | exact hPo _ | exact hTa _ | exact hRo _) (by first | assumption | exact b01_r | exact bz_r | omega | (constructor <;> omega) | exact hM _ | exact hPo _ | exact hTa _ | exact hRo _) rfl ?_
    refine rj_icmp_ge (pc := 12) (tgt := 44) dX11_next_12 (by decide) (by first | assumption | exact b01_r | exact bz_r | omega | (constructor <;> omega) | exact hM _ | exact hPo _ | exact hTa _ | exact hRo _) (by first | assumption | exact b01_r | exact bz_r | omega | (constructor <;> omega) | exact hM _ | exact hPo _ | exact hTa _ | exact hRo _) (fun c_12 => ?_) (fun c_12 => ?_)
    · refine r_iload_n (pc := 44) dX11_next_44 rfl ?_
      refine r_ireturn (pc := 45) .int dX11_next_45 rfl (by first | rfl | assumption) ?_
      exfalso; omega
    · refine r_aload_n (pc := 15) dX11_next_15 rfl (by first | rfl | exact isRefV_rf _) ?_
      refine r_iload_n (pc := 16) dX11_next_16 rfl ?_
      refine r_callV1 (pc := 17) dX11_next_17 qX11_isReady kX11_183 vX11_isReady (by exact isM.gx (by assumption)) rfl rfl (Nat.le_of_ble_eq_true rfl) (m_isReady (d + 1) hB hM (by omega) (by omega)) (fun v_17 h_17 q_17 => ?_)
      obtain ⟨rfl, rfl⟩ := q_17
      refine rj_if_eq (pc := 20) (tgt := 38) dX11_next_20 (by decide) (by first | assumption | exact b01_r | exact bz_r | omega | (constructor <;> omega) | exact hM _ | exact hPo _ | exact hTa _ | exact hRo _) (fun c_20 => ?_) (fun c_20 => ?_)
      · try simp only [b01_0, bz_0, Classical.not_not] at c_20
        refine rj_iinc (pc := 38) dX11_next_38 (Nat.le_of_ble_eq_true rfl) rfl ?_
        dsimp only [lsSt, List.set, mLs, mEnt]
        refine r_goto (pc := 41) (tgt := 5) dX11_next_41 (by decide) ?_
        have z := ih (t + 1) f (by omega) (by omega) hf2
        rw [nxL, if_neg (fun g => c_20 (by have := g.1; simp only [readyB, decide_eq_true_eq] at this; rw [n_ready]; exact this))]
        exact z
      · try simp only [b01_0, bz_0, Classical.not_not] at c_20
        refine r_iload_n (pc := 23) dX11_next_23 rfl ?_
        refine rj_if_lt (pc := 24) (tgt := 36) dX11_next_24 (by decide) (by first | assumption | exact b01_r | exact bz_r | omega | (constructor <;> omega) | exact hM _ | exact hPo _ | exact hTa _ | exact hRo _) (fun c_24 => ?_) (fun c_24 => ?_)
        · refine r_iload_n (pc := 36) dX11_next_36 rfl ?_
          refine r_istore_n (pc := 37) dX11_next_37 (Nat.le_of_ble_eq_true rfl) ?_
          dsimp only [lsSt, List.set, mLs, mEnt]
          refine rj_iinc (pc := 38) dX11_next_38 (Nat.le_of_ble_eq_true rfl) rfl ?_
          dsimp only [lsSt, List.set, mLs, mEnt]
          refine r_goto (pc := 41) (tgt := 5) dX11_next_41 (by decide) ?_
          have z := ih (t + 1) (t : Int) (by omega) (by omega) (by omega)
          rw [nxL, if_pos ⟨by simp only [readyB, decide_eq_true_eq]; rw [n_ready] at c_20; exact c_20, Or.inl c_24⟩]
          exact z
        · refine r_aload_n (pc := 27) dX11_next_27 rfl (by first | rfl | exact isRefV_rf _) ?_
          refine r_iload_n (pc := 28) dX11_next_28 rfl ?_
          refine r_iload_n (pc := 29) dX11_next_29 rfl ?_
          refine r_callV2 (pc := 30) dX11_next_30 qX11_isAhead kX11_201 vX11_isAhead (by exact isM.gx (by assumption)) rfl rfl (Nat.le_of_ble_eq_true rfl) (by rw [show f = ((f.toNat : Nat) : Int) by omega]; exact m_isAhead (d + 1) hB hM (a := t) (b := f.toNat) (by omega) (by omega) (hP t (by omega)) (hP _ (by omega))) (fun v_30 h_30 q_30 => ?_)
          obtain ⟨rfl, rfl⟩ := q_30
          refine rj_if_eq (pc := 33) (tgt := 38) dX11_next_33 (by decide) (by first | assumption | exact b01_r | exact bz_r | omega | (constructor <;> omega) | exact hM _ | exact hPo _ | exact hTa _ | exact hRo _) (fun c_33 => ?_) (fun c_33 => ?_)
          · try simp only [b01_0, bz_0, Classical.not_not] at c_33
            refine rj_iinc (pc := 38) dX11_next_38 (Nat.le_of_ble_eq_true rfl) rfl ?_
            dsimp only [lsSt, List.set, mLs, mEnt]
            refine r_goto (pc := 41) (tgt := 5) dX11_next_41 (by decide) ?_
            have z := ih (t + 1) f (by omega) (by omega) hf2
            rw [nxL, if_neg (fun g => g.2.elim c_24 c_33)]
            exact z
          · try simp only [b01_0, bz_0, Classical.not_not] at c_33
            refine r_iload_n (pc := 36) dX11_next_36 rfl ?_
            refine r_istore_n (pc := 37) dX11_next_37 (Nat.le_of_ble_eq_true rfl) ?_
            dsimp only [lsSt, List.set, mLs, mEnt]
            refine rj_iinc (pc := 38) dX11_next_38 (Nat.le_of_ble_eq_true rfl) rfl ?_
            dsimp only [lsSt, List.set, mLs, mEnt]
            refine r_goto (pc := 41) (tgt := 5) dX11_next_41 (by decide) ?_
            have z := ih (t + 1) (t : Int) (by omega) (by omega) (by omega)
            rw [nxL, if_pos ⟨by simp only [readyB, decide_eq_true_eq]; rw [n_ready] at c_20; exact c_20, Or.inr c_33⟩]
            exact z
end mg_31

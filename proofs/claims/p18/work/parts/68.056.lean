section mg_73
set_option maxHeartbeats 4000000 in
set_option maxRecDepth 100000 in
theorem L_from {G : mG} {l : Launch} (d : Nat) {h : mH} {x s : Nat} {f4 f6 f8 f9 f10 f11 f12 f13 f14 f16 f18 : Int} {m kp was pool tape pln pap rwd rw : Nat → Int}(hB : isM h x (mFs x f4 f6 f8 f9 f10 f11 f12 f13 f14 f16 f18 s) m kp was pool tape pln pap rwd rw) (hok : mOk m) {N : Nat} (hN : m 1 = (N : Int)) (hnm : ∀ t : Nat, t < N → (0 ≤ m (261 + 14 * t) ∧ m (261 + 14 * t) ≤ 7) ∧ ∀ k : Nat, k < 7 → -200 ≤ m (265 + 14 * t + k) ∧ m (265 + 14 * t + k) ≤ 200) {b : Int} (h6 : 0 ≤ b ∧ b ≤ 120) (hta : ∀ k : Nat, (k : Int) < b → -200 ≤ tape k ∧ tape k ≤ 200) : ∀ (n t : Nat) (f : Int), t + n = N → f < t → -5 ≤ f → RUN G l (d + 3) mX11_from 15 [some (.ref x), some (.int (J b)), some (.int (J f)), some (.int (J (t : Int)))] [] h (fun v h' => v = some (.int (J (frL m tape b n t f))) ∧ h' = h) := by
  obtain ⟨hM, k0, k1, k2, k3, k4, k5, k7⟩ := id hok
  intro n
  induction n with
  | zero =>
    intro t f ht hf hf2
    have hB0 := hB
    dsimp only [mFs] at hB
    refine r_iload_n (pc := 15) dX11_from_15 rfl ?_
    refine r_aload_n (pc := 16) dX11_from_16 rfl (by first | rfl | exact isRefV_rf _) ?_
    refine rm_getf (pc := 17) dX11_from_17 fX11_11 (by assumption) rfl ?_
    refine rj_iconst (pc := 20) dX11_from_20 ?_
    refine rj_iald (pc := 21) (j := 1) dX11_from_21 (by first | exact isM.g0 (by assumption) | exact isM.g3 (by assumption) | exact isM.g4 (by assumption) | exact isM.g8 (by assumption) | exact isM.g7 (by assumption) | exact isM.g6 (by assumption) | exact isM.g5 (by assumption) | exact isM.g1 (by assumption) | exact isM.g2 (by assumption)) (by first | assumption | exact b01_r | exact bz_r | omega | (constructor <;> omega) | exact hM _ | exact hPo _ | exact hTa _ | exact hRo _) (by first | assumption | exact b01_r | exact bz_r | omega | (constructor <;> omega) | exact hM _ | exact hPo _ | exact hTa _ | exact hRo _) (by first | assumption | exact b01_r | exact bz_r | omega | (constructor <;> omega) | exact hM _ | exact hPo _ | exact hTa _ | exact hRo _) (by omega) ?_
    refine rj_icmp_ge (pc := 22) (tgt := 68) dX11_from_22 (by decide) (by first | assumption | exact b01_r | exact bz_r | omega | (constructor <;> omega) | exact hM _ | exact hPo _ | exact hTa _ | exact hRo _) (by first | assumption | exact b01_r | exact bz_r | omega | (constructor <;> omega) | exact hM _ | exact hPo _ | exact hTa _ | exact hRo _) (fun c_22 => ?_) (fun c_22 => ?_)
    · refine r_iload_n (pc := 68) dX11_from_68 rfl ?_
      refine r_ireturn (pc := 69) .int dX11_from_69 rfl (by first | rfl | assumption) ?_
      exact ⟨rfl, rfl⟩
    · exfalso; omega
  | succ n ih =>
    intro t f ht hf hf2
    have hB0 := hB
    obtain ⟨g1, g2⟩ := hnm t (by omega)
    have ra : InR (agV m tape t 0 b) := agV_r h6 g1 g2 (fun k hk => by rw [Nat.zero_add]; exact hta k hk)
    have rt : 0 ≤ f → InR (agT m t f.toNat) := fun q => agT_r hnm (by omega) (by omega)
    dsimp only [mFs] at hB
    refine r_iload_n (pc := 15) dX11_from_15 rfl ?_
    refine r_aload_n (pc := 16) dX11_from_16 rfl (by first | rfl | exact isRefV_rf _) ?_
    refine rm_getf (pc := 17) dX11_from_17 fX11_11 (by assumption) rfl ?_
    refine rj_iconst (pc := 20) dX11_from_20 ?_
    refine rj_iald (pc := 21) (j := 1) dX11_from_21 (by first | exact isM.g0 (by assumption) | exact isM.g3 (by assumption) | exact isM.g4 (by assumption) | exact isM.g8 (by assumption) | exact isM.g7 (by assumption) | exact isM.g6 (by assumption) | exact isM.g5 (by assumption) | exact isM.g1 (by assumption) | exact isM.g2 (by assumption)) (by first | assumption | exact b01_r | exact bz_r | omega | (constructor <;> omega) | exact hM _ | exact hPo _ | exact hTa _ | exact hRo _) (by first | assumption | exact b01_r | exact bz_r | omega | (constructor <;> omega) | exact hM _ | exact hPo _ | exact hTa _ | exact hRo _) (by first | assumption | exact b01_r | exact bz_r | omega | (constructor <;> omega) | exact hM _ | exact hPo _ | exact hTa _ | exact hRo _) (by omega) ?_
    refine rj_icmp_ge (pc := 22) (tgt := 68) dX11_from_22 (by decide) (by first | assumption | exact b01_r | exact bz_r | omega | (constructor <;> omega) | exact hM _ | exact hPo _ | exact hTa _ | exact hRo _) (by first | assumption | exact b01_r | exact bz_r | omega | (constructor <;> omega) | exact hM _ | exact hPo _ | exact hTa _ | exact hRo _) (fun c_22 => ?_) (fun c_22 => ?_)
    · exfalso; omega
    · refine r_aload_n (pc := 25) dX11_from_25 rfl (by first | rfl | exact isRefV_rf _) ?_
      refine r_iload_n (pc := 26) dX11_from_26 rfl ?_
      refine r_callV1 (pc := 27) dX11_from_27 qX11_isHeld kX11_119 vX11_isHeld (by exact isM.gx (by assumption)) rfl rfl (Nat.le_of_ble_eq_true rfl) (m_isHeld (d + 1) hB0 hM (by omega) (by omega)) (fun v_27 h_27 q_27 => ?_)
      obtain ⟨rfl, rfl⟩ := q_27
      refine rj_if_eq (pc := 30) (tgt := 62) dX11_from_30 (by decide) (by first | assumption | exact b01_r | exact bz_r | omega | (constructor <;> omega) | exact hM _ | exact hPo _ | exact hTa _ | exact hRo _) (fun c_30 => ?_) (fun c_30 => ?_)
      · try simp only [b01_0, bz_0, Classical.not_not] at c_30
        refine rj_iinc (pc := 62) dX11_from_62 (Nat.le_of_ble_eq_true rfl) rfl ?_
        dsimp only [lsSt, List.set, mLs, mEnt]
        refine r_goto (pc := 65) (tgt := 15) dX11_from_65 (by decide) ?_
        have z := ih (t + 1) f (by omega) (by omega) hf2
        rw [frL, if_neg (fun g => c_30 (by have := g.1; simp only [heldB, decide_eq_true_eq] at this; rw [n_held]; exact this))]
        exact z
      · try simp only [b01_0, bz_0, Classical.not_not] at c_30
        refine r_aload_n (pc := 33) dX11_from_33 rfl (by first | rfl | exact isRefV_rf _) ?_
        refine r_iload_n (pc := 34) dX11_from_34 rfl ?_
        refine r_aload_n (pc := 35) dX11_from_35 rfl (by first | rfl | exact isRefV_rf _) ?_
        refine rm_getf (pc := 36) dX11_from_36 fX11_24 (by assumption) rfl ?_
        refine rj_iconst (pc := 39) dX11_from_39 ?_
        refine r_iload_n (pc := 40) dX11_from_40 rfl ?_
        refine r_callV4 (pc := 41) dX11_from_41 qX11_against kX11_264 vX11_against (by exact isM.gx (by assumption)) rfl rfl (Nat.le_of_ble_eq_true rfl) (by have y := m_against (G := G) (l := l) (d + 1) hB0 hok (rs := 4) (fr := 0) (t := t) (rc := tape) (b := b) (Or.inl ⟨rfl, rfl, by omega⟩) h6.1 (by omega) g1 g2 (fun k hk => by rw [Nat.zero_add]; exact hta k hk); exact y) (fun v_41 h_41 q_41 => ?_)
        obtain ⟨rfl, rfl⟩ := q_41
        refine rj_if_lt (pc := 44) (tgt := 62) dX11_from_44 (by decide) (by first | assumption | exact b01_r | exact bz_r | omega | (constructor <;> omega) | exact hM _ | exact hPo _ | exact hTa _ | exact hRo _) (fun c_44 => ?_) (fun c_44 => ?_)
        · refine rj_iinc (pc := 62) dX11_from_62 (Nat.le_of_ble_eq_true rfl) rfl ?_
          dsimp only [lsSt, List.set, mLs, mEnt]
          refine r_goto (pc := 65) (tgt := 15) dX11_from_65 (by decide) ?_
          have z := ih (t + 1) f (by omega) (by omega) hf2
          rw [frL, if_neg (fun g => absurd g.2.1 (by omega))]
          exact z
        · refine r_iload_n (pc := 47) dX11_from_47 rfl ?_
          refine rj_if_lt (pc := 48) (tgt := 60) dX11_from_48 (by decide) (by first | assumption | exact b01_r | exact bz_r | omega | (constructor <;> omega) | exact hM _ | exact hPo _ | exact hTa _ | exact hRo _) (fun c_48 => ?_) (fun c_48 => ?_)
          · refine r_iload_n (pc := 60) dX11_from_60 rfl ?_
            refine r_istore_n (pc := 61) dX11_from_61 (Nat.le_of_ble_eq_true rfl) ?_
            dsimp only [lsSt, List.set, mLs, mEnt]
            refine rj_iinc (pc := 62) dX11_from_62 (Nat.le_of_ble_eq_true rfl) rfl ?_
            dsimp only [lsSt, List.set, mLs, mEnt]
            refine r_goto (pc := 65) (tgt := 15) dX11_from_65 (by decide) ?_
            have z := ih (t + 1) (t : Int) (by omega) (by omega) (by omega)
            rw [frL, if_pos ⟨by simp only [heldB, decide_eq_true_eq]; rw [n_held] at c_30; exact c_30, by omega, Or.inl c_48⟩]
            exact z
          · refine r_aload_n (pc := 51) dX11_from_51 rfl (by first | rfl | exact isRefV_rf _) ?_
            refine r_iload_n (pc := 52) dX11_from_52 rfl ?_
            refine r_iload_n (pc := 53) dX11_from_53 rfl ?_
            have rt2 := rt (by omega)
            refine r_callV2 (pc := 54) dX11_from_54 qX11_against_ kX11_268 vX11_against_ (by exact isM.gx (by assumption)) rfl rfl (Nat.le_of_ble_eq_true rfl) (by rw [show f = ((f.toNat : Nat) : Int) by omega]; exact m_against2 d hB0 hok hN hnm (t := t) (o := f.toNat) (by omega) (by omega)) (fun v_54 h_54 q_54 => ?_)
            obtain ⟨rfl, rfl⟩ := q_54
            refine rj_if_ge (pc := 57) (tgt := 62) dX11_from_57 (by decide) (by first | assumption | exact b01_r | exact bz_r | omega | (constructor <;> omega) | exact hM _ | exact hPo _ | exact hTa _ | exact hRo _) (fun c_57 => ?_) (fun c_57 => ?_)
            · refine rj_iinc (pc := 62) dX11_from_62 (Nat.le_of_ble_eq_true rfl) rfl ?_
              dsimp only [lsSt, List.set, mLs, mEnt]
              refine r_goto (pc := 65) (tgt := 15) dX11_from_65 (by decide) ?_
              have z := ih (t + 1) f (by omega) (by omega) hf2
              rw [frL, if_neg (fun g => g.2.2.elim c_48 (by omega))]
              exact z
            · refine r_iload_n (pc := 60) dX11_from_60 rfl ?_
              refine r_istore_n (pc := 61) dX11_from_61 (Nat.le_of_ble_eq_true rfl) ?_
              dsimp only [lsSt, List.set, mLs, mEnt]
              refine rj_iinc (pc := 62) dX11_from_62 (Nat.le_of_ble_eq_true rfl) rfl ?_
              dsimp only [lsSt, List.set, mLs, mEnt]
              refine r_goto (pc := 65) (tgt := 15) dX11_from_65 (by decide) ?_
              have z := ih (t + 1) (t : Int) (by omega) (by omega) (by omega)
              rw [frL, if_pos ⟨by simp only [heldB, decide_eq_true_eq]; rw [n_held] at c_30; exact c_30, by omega, Or.inr (by omega)⟩]
              exact z
end mg_73

section mg_35
set_option maxHeartbeats 4000000 in
set_option maxRecDepth 100000 in
theorem L_entryAhead {G : mG} {l : Launch} (d : Nat) {h : mH} {x s : Nat} {f4 f6 f8 f9 f10 f11 f12 f13 f14 f16 f18 : Int} {m kp was pool tape pln pap rwd rw : Nat → Int}(hB : isM h x (mFs x f4 f6 f8 f9 f10 f11 f12 f13 f14 f16 f18 s) m kp was pool tape pln pap rwd rw) (hM : ∀ q, InR (m q)) {N C : Nat} (hN : m 1 = (N : Int)) (hcap : N ≤ 90) (hC : m 0 = (C : Int)) (hC2 : C ≤ 60) {a : Int} (ha : InR a) {st : Int} (hst : InR st) : ∀ (n t : Nat) (f : Int), t + n = 160 → -5 ≤ f → f < t → RUN G l (d + 3) mX11_entryAhead 6 [some (.ref x), some (.int (J a)), some (.int (J st)), some (.int (J f)), some (.int (J (t : Int)))] [] h (fun v h' => v = some (.int (J (eaL m N C a st n t f))) ∧ h' = h) := by
  dsimp only [mFs] at hB
  intro n
  induction n with
  | zero =>
    intro t f ht hf hf2
    refine r_iload (pc := 6) dX11_entryAhead_6 rfl ?_
    refine rj_sipush (pc := 8) dX11_entryAhead_8 (by decide +kernel) ?_
    refine rj_icmp_ge (pc := 11) (tgt := 61) dX11_entryAhead_11 (by decide) (by first | assumption | exact b01_r | exact bz_r | omega | (constructor <;> omega) | exact hM _ | exact hPo _ | exact hTa _ | exact hRo _) (by first | assumption | exact b01_r | exact bz_r | omega | (constructor <;> omega) | exact hM _ | exact hPo _ | exact hTa _ | exact hRo _) (fun c_11 => ?_) (fun c_11 => ?_)
    · refine r_iload_n (pc := 61) dX11_entryAhead_61 rfl ?_
      refine r_ireturn (pc := 62) .int dX11_entryAhead_62 rfl (by first | rfl | assumption) ?_
      exact ⟨rfl, rfl⟩
    · exfalso; omega
  | succ n ih =>
    intro t f ht hf hf2
    have q1 := stampV_r hM t
    have q2 := stampV_r hM f.toNat
    refine r_iload (pc := 6) dX11_entryAhead_6 rfl ?_
    refine rj_sipush (pc := 8) dX11_entryAhead_8 (by decide +kernel) ?_
    refine rj_icmp_ge (pc := 11) (tgt := 61) dX11_entryAhead_11 (by decide) (by first | assumption | exact b01_r | exact bz_r | omega | (constructor <;> omega) | exact hM _ | exact hPo _ | exact hTa _ | exact hRo _) (by first | assumption | exact b01_r | exact bz_r | omega | (constructor <;> omega) | exact hM _ | exact hPo _ | exact hTa _ | exact hRo _) (fun c_11 => ?_) (fun c_11 => ?_)
    · refine r_iload_n (pc := 61) dX11_entryAhead_61 rfl ?_
      refine r_ireturn (pc := 62) .int dX11_entryAhead_62 rfl (by first | rfl | assumption) ?_
      exfalso; omega
    · refine r_aload_n (pc := 14) dX11_entryAhead_14 rfl (by first | rfl | exact isRefV_rf _) ?_
      refine r_iload (pc := 15) dX11_entryAhead_15 rfl ?_
      refine r_iload_n (pc := 17) dX11_entryAhead_17 rfl ?_
      refine r_callV2 (pc := 18) dX11_entryAhead_18 qX11_isEntry kX11_255 vX11_isEntry (by exact isM.gx (by assumption)) rfl rfl (Nat.le_of_ble_eq_true rfl) (m_isEntry d hB hM hN hcap hC hC2 ha (e := t) (by omega)) (fun v_18 h_18 q_18 => ?_)
      obtain ⟨rfl, rfl⟩ := q_18
      refine rj_if_eq (pc := 21) (tgt := 55) dX11_entryAhead_21 (by decide) (by first | assumption | exact b01_r | exact bz_r | omega | (constructor <;> omega) | exact hM _ | exact hPo _ | exact hTa _ | exact hRo _) (fun c_21 => ?_) (fun c_21 => ?_)
      · try simp only [b01_0, bz_0, Classical.not_not] at c_21
        refine rj_iinc (pc := 55) dX11_entryAhead_55 (Nat.le_of_ble_eq_true rfl) rfl ?_
        dsimp only [lsSt, List.set, mLs, mEnt]
        refine r_goto (pc := 58) (tgt := 6) dX11_entryAhead_58 (by decide) ?_
        have z := ih (t + 1) f (by omega) hf (by omega)
        rw [eaL, if_neg (fun g => c_21 g.1)]
        exact z
      · try simp only [b01_0, bz_0, Classical.not_not] at c_21
        refine r_aload_n (pc := 24) dX11_entryAhead_24 rfl (by first | rfl | exact isRefV_rf _) ?_
        refine r_iload (pc := 25) dX11_entryAhead_25 rfl ?_
        refine r_callV1 (pc := 27) dX11_entryAhead_27 qX11_stampOf kX11_258 vX11_stampOf (by exact isM.gx (by assumption)) rfl rfl (Nat.le_of_ble_eq_true rfl) (m_stampOf (d + 1) hB (e := t) (by omega)) (fun v_27 h_27 q_27 => ?_)
        obtain ⟨rfl, rfl⟩ := q_27
        refine r_iload_n (pc := 30) dX11_entryAhead_30 rfl ?_
        refine rj_icmp_ge (pc := 31) (tgt := 55) dX11_entryAhead_31 (by decide) (by first | assumption | exact b01_r | exact bz_r | omega | (constructor <;> omega) | exact hM _ | exact hPo _ | exact hTa _ | exact hRo _) (by first | assumption | exact b01_r | exact bz_r | omega | (constructor <;> omega) | exact hM _ | exact hPo _ | exact hTa _ | exact hRo _) (fun c_31 => ?_) (fun c_31 => ?_)
        · refine rj_iinc (pc := 55) dX11_entryAhead_55 (Nat.le_of_ble_eq_true rfl) rfl ?_
          dsimp only [lsSt, List.set, mLs, mEnt]
          refine r_goto (pc := 58) (tgt := 6) dX11_entryAhead_58 (by decide) ?_
          have z := ih (t + 1) f (by omega) hf (by omega)
          rw [eaL, if_neg (fun g => by have := g.2.1; omega)]
          exact z
        · refine r_iload_n (pc := 34) dX11_entryAhead_34 rfl ?_
          refine rj_if_lt (pc := 35) (tgt := 52) dX11_entryAhead_35 (by decide) (by first | assumption | exact b01_r | exact bz_r | omega | (constructor <;> omega) | exact hM _ | exact hPo _ | exact hTa _ | exact hRo _) (fun c_35 => ?_) (fun c_35 => ?_)
          · refine r_iload (pc := 52) dX11_entryAhead_52 rfl ?_
            refine r_istore_n (pc := 54) dX11_entryAhead_54 (Nat.le_of_ble_eq_true rfl) ?_
            dsimp only [lsSt, List.set, mLs, mEnt]
            refine rj_iinc (pc := 55) dX11_entryAhead_55 (Nat.le_of_ble_eq_true rfl) rfl ?_
            dsimp only [lsSt, List.set, mLs, mEnt]
            refine r_goto (pc := 58) (tgt := 6) dX11_entryAhead_58 (by decide) ?_
            have z := ih (t + 1) (t : Int) (by omega) (by omega) (by omega)
            rw [eaL, if_pos ⟨c_21, by omega, Or.inl (by omega)⟩]
            exact z
          · refine r_aload_n (pc := 38) dX11_entryAhead_38 rfl (by first | rfl | exact isRefV_rf _) ?_
            refine r_iload (pc := 39) dX11_entryAhead_39 rfl ?_
            refine r_callV1 (pc := 41) dX11_entryAhead_41 qX11_stampOf kX11_258 vX11_stampOf (by exact isM.gx (by assumption)) rfl rfl (Nat.le_of_ble_eq_true rfl) (m_stampOf (d + 1) hB (e := t) (by omega)) (fun v_41 h_41 q_41 => ?_)
            obtain ⟨rfl, rfl⟩ := q_41
            refine r_aload_n (pc := 44) dX11_entryAhead_44 rfl (by first | rfl | exact isRefV_rf _) ?_
            refine r_iload_n (pc := 45) dX11_entryAhead_45 rfl ?_
            refine r_callV1 (pc := 46) dX11_entryAhead_46 qX11_stampOf kX11_258 vX11_stampOf (by exact isM.gx (by assumption)) rfl rfl (Nat.le_of_ble_eq_true rfl) (by rw [show f = ((f.toNat : Nat) : Int) by omega]; exact m_stampOf (d + 1) hB (e := f.toNat) (by omega)) (fun v_46 h_46 q_46 => ?_)
            obtain ⟨rfl, rfl⟩ := q_46
            refine rj_icmp_le (pc := 49) (tgt := 55) dX11_entryAhead_49 (by decide) (by first | assumption | exact b01_r | exact bz_r | omega | (constructor <;> omega) | exact hM _ | exact hPo _ | exact hTa _ | exact hRo _) (by first | assumption | exact b01_r | exact bz_r | omega | (constructor <;> omega) | exact hM _ | exact hPo _ | exact hTa _ | exact hRo _) (fun c_49 => ?_) (fun c_49 => ?_)
            · refine rj_iinc (pc := 55) dX11_entryAhead_55 (Nat.le_of_ble_eq_true rfl) rfl ?_
              dsimp only [lsSt, List.set, mLs, mEnt]
              refine r_goto (pc := 58) (tgt := 6) dX11_entryAhead_58 (by decide) ?_
              have z := ih (t + 1) f (by omega) hf (by omega)
              rw [eaL, if_neg (fun g => by have := g.2.2; omega)]
              exact z
            · refine r_iload (pc := 52) dX11_entryAhead_52 rfl ?_
              refine r_istore_n (pc := 54) dX11_entryAhead_54 (Nat.le_of_ble_eq_true rfl) ?_
              dsimp only [lsSt, List.set, mLs, mEnt]
              refine rj_iinc (pc := 55) dX11_entryAhead_55 (Nat.le_of_ble_eq_true rfl) rfl ?_
              dsimp only [lsSt, List.set, mLs, mEnt]
              refine r_goto (pc := 58) (tgt := 6) dX11_entryAhead_58 (by decide) ?_
              have z := ih (t + 1) (t : Int) (by omega) (by omega) (by omega)
              rw [eaL, if_pos ⟨c_21, by omega, Or.inr (by omega)⟩]
              exact z
end mg_35

section mg_73
set_option maxHeartbeats 4000000 in
set_option maxRecDepth 100000 in
theorem L_against {G : mG} {l : Launch} (d : Nat) {h : mH} {x s : Nat} {f4 f6 f8 f9 f10 f11 f12 f13 f14 f16 f18 : Int} {m kp was pool tape pln pap rwd rw : Nat → Int}(hB : isM h x (mFs x f4 f6 f8 f9 f10 f11 f12 f13 f14 f16 f18 s) m kp was pool tape pln pap rwd rw) (hok : mOk m) {rs fr t : Nat} {rc : Nat → Int} {b : Int} (hR : (rs = 4 ∧ rc = tape ∧ (fr : Int) + b ≤ 120) ∨ (rs = 0 ∧ rc = m ∧ (fr : Int) + b ≤ 2928)) (hb : 0 ≤ b) (ht : t ≤ 89) (h7 : 0 ≤ m (261 + 14 * t) ∧ m (261 + 14 * t) ≤ 7) (hn : ∀ k : Nat, k < 7 → -200 ≤ m (265 + 14 * t + k) ∧ m (265 + 14 * t + k) ≤ 200) (hc : ∀ k : Nat, (k : Int) < b → -200 ≤ rc (fr + k) ∧ rc (fr + k) ≤ 200) : ∀ (n k : Nat) (v7 : Option Value), k + n = agN (m (261 + 14 * t)) b → RUN G l (d + 1) mX11_against 16 [some (.ref x), some (.int (J (t : Int))), some (.ref (mAd x rs)), some (.int (J (fr : Int))), some (.int (J b)), some (.int (J (m (261 + 14 * t)))), some (.int (J (k : Int))), v7] [] h (fun v h' => v = some (.int (J (agL m rc t fr (m (261 + 14 * t)) b n k))) ∧ h' = h) := by
  have hag : (agN (m (261 + 14 * t)) b : Int) ≤ m (261 + 14 * t) ∧ (agN (m (261 + 14 * t)) b : Int) ≤ b ∧ ((agN (m (261 + 14 * t)) b : Int) = m (261 + 14 * t) ∨ (agN (m (261 + 14 * t)) b : Int) = b) := by unfold agN; split <;> omega
  have rb : InR b := by rcases hR with ⟨_, _, g⟩ | ⟨_, _, g⟩ <;> exact ⟨by omega, by omega⟩
  intro n
  induction n with
  | zero =>
    intro k v7 hk
    have hB0 := hB
    dsimp only [mFs] at hB
    refine r_iload (pc := 16) dX11_against_16 rfl ?_
    refine r_iload (pc := 18) dX11_against_18 rfl ?_
    refine rj_icmp_ge (pc := 20) (tgt := 66) dX11_against_20 (by decide) (by first | assumption | exact b01_r | exact bz_r | omega | (constructor <;> omega) | exact hM _ | exact hPo _ | exact hTa _ | exact hRo _) (by first | assumption | exact b01_r | exact bz_r | omega | (constructor <;> omega) | exact hM _ | exact hPo _ | exact hTa _ | exact hRo _) (fun c_20 => ?_) (fun c_20 => ?_)
    · refine r_iload (pc := 66) dX11_against_66 rfl ?_
      refine r_iload (pc := 68) dX11_against_68 rfl ?_
      refine rj_isub (pc := 70) dX11_against_70 ?_
      refine r_ireturn (pc := 71) .int dX11_against_71 rfl (by first | rfl | assumption) ?_
      exact ⟨rfl, rfl⟩
    · refine r_iload (pc := 23) dX11_against_23 rfl ?_
      refine r_iload (pc := 25) dX11_against_25 rfl ?_
      refine rj_icmp_ge (pc := 27) (tgt := 66) dX11_against_27 (by decide) (by first | assumption | exact b01_r | exact bz_r | omega | (constructor <;> omega) | exact hM _ | exact hPo _ | exact hTa _ | exact hRo _) (by first | assumption | exact b01_r | exact bz_r | omega | (constructor <;> omega) | exact hM _ | exact hPo _ | exact hTa _ | exact hRo _) (fun c_27 => ?_) (fun c_27 => ?_)
      · refine r_iload (pc := 66) dX11_against_66 rfl ?_
        refine r_iload (pc := 68) dX11_against_68 rfl ?_
        refine rj_isub (pc := 70) dX11_against_70 ?_
        refine r_ireturn (pc := 71) .int dX11_against_71 rfl (by first | rfl | assumption) ?_
        exact ⟨rfl, rfl⟩
      · exfalso; omega
  | succ n ih =>
    intro k v7 hk
    have hB0 := hB
    have g1 := hn k (by omega)
    have g2 := hc k (by omega)
    rcases hR with ⟨rfl, rfl, h3⟩ | ⟨rfl, rfl, h3⟩
    · dsimp only [mFs] at hB
      refine r_iload (pc := 16) dX11_against_16 rfl ?_
      refine r_iload (pc := 18) dX11_against_18 rfl ?_
      refine rj_icmp_ge (pc := 20) (tgt := 66) dX11_against_20 (by decide) (by first | assumption | exact b01_r | exact bz_r | omega | (constructor <;> omega) | exact hM _ | exact hPo _ | exact hTa _ | exact hRo _) (by first | assumption | exact b01_r | exact bz_r | omega | (constructor <;> omega) | exact hM _ | exact hPo _ | exact hTa _ | exact hRo _) (fun c_20 => ?_) (fun c_20 => ?_)
      · exfalso; omega
      · refine r_iload (pc := 23) dX11_against_23 rfl ?_
        refine r_iload (pc := 25) dX11_against_25 rfl ?_
        refine rj_icmp_ge (pc := 27) (tgt := 66) dX11_against_27 (by decide) (by first | assumption | exact b01_r | exact bz_r | omega | (constructor <;> omega) | exact hM _ | exact hPo _ | exact hTa _ | exact hRo _) (by first | assumption | exact b01_r | exact bz_r | omega | (constructor <;> omega) | exact hM _ | exact hPo _ | exact hTa _ | exact hRo _) (fun c_27 => ?_) (fun c_27 => ?_)
        · exfalso; omega
        · refine r_aload_n (pc := 30) dX11_against_30 rfl (by first | rfl | exact isRefV_rf _) ?_
          refine rm_getf (pc := 31) dX11_against_31 fX11_11 (by assumption) rfl ?_
          refine r_iload_n (pc := 34) dX11_against_34 rfl ?_
          refine rj_bipush (pc := 35) dX11_against_35 (by decide +kernel) ?_
          refine r_iload (pc := 37) dX11_against_37 rfl ?_
          refine r_callS3 (pc := 39) dX11_against_39 qX11_ofThing kX11_54 sX11_ofThing (Nat.le_of_ble_eq_true rfl) (m_ofThing _) (fun v_39 h_39 q_39 => ?_)
          obtain ⟨rfl, rfl⟩ := q_39
          refine rj_iald (pc := 42) (j := 265 + 14 * t + k) dX11_against_42 (by first | exact isM.g0 (by assumption) | exact isM.g3 (by assumption) | exact isM.g4 (by assumption) | exact isM.g8 (by assumption) | exact isM.g7 (by assumption) | exact isM.g6 (by assumption) | exact isM.g5 (by assumption) | exact isM.g1 (by assumption) | exact isM.g2 (by assumption)) (by first | assumption | exact b01_r | exact bz_r | omega | (constructor <;> omega) | exact hM _ | exact hPo _ | exact hTa _ | exact hRo _) (by first | assumption | exact b01_r | exact bz_r | omega | (constructor <;> omega) | exact hM _ | exact hPo _ | exact hTa _ | exact hRo _) (by first | assumption | exact b01_r | exact bz_r | omega | (constructor <;> omega) | exact hM _ | exact hPo _ | exact hTa _ | exact hRo _) (by omega) ?_
          refine r_aload_n (pc := 43) dX11_against_43 rfl (by first | rfl | exact isRefV_rf _) ?_
          refine r_iload_n (pc := 44) dX11_against_44 rfl ?_
          refine r_iload (pc := 45) dX11_against_45 rfl ?_
          refine rj_iadd (pc := 47) dX11_against_47 ?_
          refine rj_iald (pc := 48) (j := fr + k) dX11_against_48 (by first | exact isM.g0 (by assumption) | exact isM.g3 (by assumption) | exact isM.g4 (by assumption) | exact isM.g8 (by assumption) | exact isM.g7 (by assumption) | exact isM.g6 (by assumption) | exact isM.g5 (by assumption) | exact isM.g1 (by assumption) | exact isM.g2 (by assumption)) (by first | assumption | exact b01_r | exact bz_r | omega | (constructor <;> omega) | exact hM _ | exact hPo _ | exact hTa _ | exact hRo _) (by first | assumption | exact b01_r | exact bz_r | omega | (constructor <;> omega) | exact hM _ | exact hPo _ | exact hTa _ | exact hRo _) (by first | assumption | exact b01_r | exact bz_r | omega | (constructor <;> omega) | exact hM _ | exact hPo _ | exact hTa _ | exact hRo _) (by omega) ?_
          refine rj_isub (pc := 49) dX11_against_49 ?_
          refine r_istore (pc := 50) dX11_against_50 (Nat.le_of_ble_eq_true rfl) ?_
          dsimp only [lsSt, List.set, mLs, mEnt]
          refine r_iload (pc := 52) dX11_against_52 rfl ?_
          refine rj_if_eq (pc := 54) (tgt := 60) dX11_against_54 (by decide) (by first | assumption | exact b01_r | exact bz_r | omega | (constructor <;> omega) | exact hM _ | exact hPo _ | exact hTa _ | exact hRo _) (fun c_54 => ?_) (fun c_54 => ?_)
          · try simp only [b01_0, bz_0, Classical.not_not] at c_54
            refine rj_iinc (pc := 60) dX11_against_60 (Nat.le_of_ble_eq_true rfl) rfl ?_
            dsimp only [lsSt, List.set, mLs, mEnt]
            refine r_goto (pc := 63) (tgt := 16) dX11_against_63 (by decide) ?_
            rw [show ((k : Int) + 1) = ((k + 1 : Nat) : Int) by omega, agL, if_pos c_54]
            exact ih (k + 1) _ (by omega)
          · try simp only [b01_0, bz_0, Classical.not_not] at c_54
            refine r_iload (pc := 57) dX11_against_57 rfl ?_
            refine r_ireturn (pc := 59) .int dX11_against_59 rfl (by first | rfl | assumption) ?_
            exact ⟨by rw [agL, if_neg c_54], rfl⟩
    · dsimp only [mFs] at hB
      refine r_iload (pc := 16) dX11_against_16 rfl ?_
      refine r_iload (pc := 18) dX11_against_18 rfl ?_
      refine rj_icmp_ge (pc := 20) (tgt := 66) dX11_against_20 (by decide) (by first | assumption | exact b01_r | exact bz_r | omega | (constructor <;> omega) | exact hM _ | exact hPo _ | exact hTa _ | exact hRo _) (by first | assumption | exact b01_r | exact bz_r | omega | (constructor <;> omega) | exact hM _ | exact hPo _ | exact hTa _ | exact hRo _) (fun c_20 => ?_) (fun c_20 => ?_)
      · exfalso; omega
      · refine r_iload (pc := 23) dX11_against_23 rfl ?_
        refine r_iload (pc := 25) dX11_against_25 rfl ?_
        refine rj_icmp_ge (pc := 27) (tgt := 66) dX11_against_27 (by decide) (by first | assumption | exact b01_r | exact bz_r | omega | (constructor <;> omega) | exact hM _ | exact hPo _ | exact hTa _ | exact hRo _) (by first | assumption | exact b01_r | exact bz_r | omega | (constructor <;> omega) | exact hM _ | exact hPo _ | exact hTa _ | exact hRo _) (fun c_27 => ?_) (fun c_27 => ?_)
        · exfalso; omega
        · refine r_aload_n (pc := 30) dX11_against_30 rfl (by first | rfl | exact isRefV_rf _) ?_
          refine rm_getf (pc := 31) dX11_against_31 fX11_11 (by assumption) rfl ?_
          refine r_iload_n (pc := 34) dX11_against_34 rfl ?_
          refine rj_bipush (pc := 35) dX11_against_35 (by decide +kernel) ?_
          refine r_iload (pc := 37) dX11_against_37 rfl ?_
          refine r_callS3 (pc := 39) dX11_against_39 qX11_ofThing kX11_54 sX11_ofThing (Nat.le_of_ble_eq_true rfl) (m_ofThing _) (fun v_39 h_39 q_39 => ?_)
          obtain ⟨rfl, rfl⟩ := q_39
          refine rj_iald (pc := 42) (j := 265 + 14 * t + k) dX11_against_42 (by first | exact isM.g0 (by assumption) | exact isM.g3 (by assumption) | exact isM.g4 (by assumption) | exact isM.g8 (by assumption) | exact isM.g7 (by assumption) | exact isM.g6 (by assumption) | exact isM.g5 (by assumption) | exact isM.g1 (by assumption) | exact isM.g2 (by assumption)) (by first | assumption | exact b01_r | exact bz_r | omega | (constructor <;> omega) | exact hM _ | exact hPo _ | exact hTa _ | exact hRo _) (by first | assumption | exact b01_r | exact bz_r | omega | (constructor <;> omega) | exact hM _ | exact hPo _ | exact hTa _ | exact hRo _) (by first | assumption | exact b01_r | exact bz_r | omega | (constructor <;> omega) | exact hM _ | exact hPo _ | exact hTa _ | exact hRo _) (by omega) ?_
          refine r_aload_n (pc := 43) dX11_against_43 rfl (by first | rfl | exact isRefV_rf _) ?_
          refine r_iload_n (pc := 44) dX11_against_44 rfl ?_
          refine r_iload (pc := 45) dX11_against_45 rfl ?_
          refine rj_iadd (pc := 47) dX11_against_47 ?_
          refine rj_iald (pc := 48) (j := fr + k) dX11_against_48 (by first | exact isM.g0 (by assumption) | exact isM.g3 (by assumption) | exact isM.g4 (by assumption) | exact isM.g8 (by assumption) | exact isM.g7 (by assumption) | exact isM.g6 (by assumption) | exact isM.g5 (by assumption) | exact isM.g1 (by assumption) | exact isM.g2 (by assumption)) (by first | assumption | exact b01_r | exact bz_r | omega | (constructor <;> omega) | exact hM _ | exact hPo _ | exact hTa _ | exact hRo _) (by first | assumption | exact b01_r | exact bz_r | omega | (constructor <;> omega) | exact hM _ | exact hPo _ | exact hTa _ | exact hRo _) (by first | assumption | exact b01_r | exact bz_r | omega | (constructor <;> omega) | exact hM _ | exact hPo _ | exact hTa _ | exact hRo _) (by omega) ?_
          refine rj_isub (pc := 49) dX11_against_49 ?_
          refine r_istore (pc := 50) dX11_against_50 (Nat.le_of_ble_eq_true rfl) ?_
          dsimp only [lsSt, List.set, mLs, mEnt]
          refine r_iload (pc := 52) dX11_against_52 rfl ?_
          refine rj_if_eq (pc := 54) (tgt := 60) dX11_against_54 (by decide) (by first | assumption | exact b01_r | exact bz_r | omega | (constructor <;> omega) | exact hM _ | exact hPo _ | exact hTa _ | exact hRo _) (fun c_54 => ?_) (fun c_54 => ?_)
          · try simp only [b01_0, bz_0, Classical.not_not] at c_54
            refine rj_iinc (pc := 60) dX11_against_60 (Nat.le_of_ble_eq_true rfl) rfl ?_
            dsimp only [lsSt, List.set, mLs, mEnt]
            refine r_goto (pc := 63) (tgt := 16) dX11_against_63 (by decide) ?_
            rw [show ((k : Int) + 1) = ((k + 1 : Nat) : Int) by omega, agL, if_pos c_54]
            exact ih (k + 1) _ (by omega)
          · try simp only [b01_0, bz_0, Classical.not_not] at c_54
            refine r_iload (pc := 57) dX11_against_57 rfl ?_
            refine r_ireturn (pc := 59) .int dX11_against_59 rfl (by first | rfl | assumption) ?_
            exact ⟨by rw [agL, if_neg c_54], rfl⟩
end mg_73

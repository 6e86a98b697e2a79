section mg_28
set_option maxHeartbeats 4000000 in
set_option maxRecDepth 100000 in
theorem L_numberAt {G : mG} {l : Launch} (d : Nat) {h : mH} {x s : Nat} {f4 f6 f8 f9 f10 f11 f12 f13 f14 f16 f18 : Int} {m kp was pool tape pln pap rwd rw : Nat → Int}(hB : isM h x (mFs x f4 f6 f8 f9 f10 f11 f12 f13 f14 f16 f18 s) m kp was pool tape pln pap rwd rw) (hPo : ∀ q, InR (pool q)) {p : Nat} (hp : p < 12342) : ∀ (n k : Nat) (v : Int), stopsBy pool n k → k + n < 12342 → RUN G l (d + 1) mX11_numberAt 21 [some (.ref x), some (.int (J (p : Int))), some (.int (J (k : Int))), some (.int (J v))] [] h (fun u h' => u = some (.int (J (if pool p = 45 then -(naL pool (n + 1) k v) else naL pool (n + 1) k v))) ∧ h' = h) := by
  dsimp only [mFs] at hB
  intro n
  induction n with
  | zero =>
    intro k v hs hk
    unfold stopsBy at hs
    refine r_aload_n (pc := 21) dX11_numberAt_21 rfl (by first | rfl | exact isRefV_rf _) ?_
    refine rm_getf (pc := 22) dX11_numberAt_22 fX11_21 (by assumption) rfl ?_
    refine r_iload_n (pc := 25) dX11_numberAt_25 rfl ?_
    refine rj_iald (pc := 26) (j := k) dX11_numberAt_26 (by first | exact isM.g0 (by assumption) | exact isM.g3 (by assumption) | exact isM.g4 (by assumption) | exact isM.g8 (by assumption) | exact isM.g7 (by assumption) | exact isM.g6 (by assumption) | exact isM.g5 (by assumption) | exact isM.g1 (by assumption) | exact isM.g2 (by assumption)) (by first | assumption | exact b01_r | exact bz_r | omega | (constructor <;> omega) | exact hM _ | exact hPo _ | exact hTa _ | exact hRo _) (by first | assumption | exact b01_r | exact bz_r | omega | (constructor <;> omega) | exact hM _ | exact hPo _ | exact hTa _ | exact hRo _) (by first | assumption | exact b01_r | exact bz_r | omega | (constructor <;> omega) | exact hM _ | exact hPo _ | exact hTa _ | exact hRo _) (by omega) ?_
    refine rj_bipush (pc := 27) dX11_numberAt_27 (by decide +kernel) ?_
    refine rj_bipush (pc := 29) dX11_numberAt_29 (by decide +kernel) ?_
    refine r_callS3 (pc := 31) dX11_numberAt_31 qX11_isIn kX11_46 sX11_isIn (Nat.le_of_ble_eq_true rfl) (m_isIn d (hPo _) (by decide) (by decide)) (fun v_31 h_31 q_31 => ?_)
    obtain ⟨rfl, rfl⟩ := q_31
    refine rj_if_eq (pc := 34) (tgt := 58) dX11_numberAt_34 (by decide) (by first | assumption | exact b01_r | exact bz_r | omega | (constructor <;> omega) | exact hM _ | exact hPo _ | exact hTa _ | exact hRo _) (fun c_34 => ?_) (fun c_34 => ?_)
    · try simp only [b01_0, bz_0, Classical.not_not] at c_34
      refine r_aload_n (pc := 58) dX11_numberAt_58 rfl (by first | rfl | exact isRefV_rf _) ?_
      refine rm_getf (pc := 59) dX11_numberAt_59 fX11_21 (by assumption) rfl ?_
      refine r_iload_n (pc := 62) dX11_numberAt_62 rfl ?_
      refine rj_iald (pc := 63) (j := p) dX11_numberAt_63 (by first | exact isM.g0 (by assumption) | exact isM.g3 (by assumption) | exact isM.g4 (by assumption) | exact isM.g8 (by assumption) | exact isM.g7 (by assumption) | exact isM.g6 (by assumption) | exact isM.g5 (by assumption) | exact isM.g1 (by assumption) | exact isM.g2 (by assumption)) (by first | assumption | exact b01_r | exact bz_r | omega | (constructor <;> omega) | exact hM _ | exact hPo _ | exact hTa _ | exact hRo _) (by first | assumption | exact b01_r | exact bz_r | omega | (constructor <;> omega) | exact hM _ | exact hPo _ | exact hTa _ | exact hRo _) (by first | assumption | exact b01_r | exact bz_r | omega | (constructor <;> omega) | exact hM _ | exact hPo _ | exact hTa _ | exact hRo _) (by omega) ?_
      refine rj_bipush (pc := 64) dX11_numberAt_64 (by decide +kernel) ?_
      refine rj_icmp_ne (pc := 66) (tgt := 74) dX11_numberAt_66 (by decide) (by first | assumption | exact b01_r | exact bz_r | omega | (constructor <;> omega) | exact hM _ | exact hPo _ | exact hTa _ | exact hRo _) (by first | assumption | exact b01_r | exact bz_r | omega | (constructor <;> omega) | exact hM _ | exact hPo _ | exact hTa _ | exact hRo _) (fun c_66 => ?_) (fun c_66 => ?_)
      · refine r_iload_n (pc := 74) dX11_numberAt_74 rfl ?_
        refine r_ireturn (pc := 75) .int dX11_numberAt_75 rfl (by first | rfl | assumption) ?_
        have e : naL pool (0 + 1) k v = v := by rw [naL, if_neg c_34]
        rw [e]
        first
        | exact ⟨by rw [if_pos c_66], rfl⟩
        | exact ⟨by rw [if_neg c_66], rfl⟩
      · refine r_iload_n (pc := 69) dX11_numberAt_69 rfl ?_
        refine rj_ineg (pc := 70) dX11_numberAt_70 ?_
        refine r_goto (pc := 71) (tgt := 75) dX11_numberAt_71 (by decide) ?_
        refine r_ireturn (pc := 75) .int dX11_numberAt_75 rfl (by first | rfl | assumption) ?_
        have e : naL pool (0 + 1) k v = v := by rw [naL, if_neg c_34]
        rw [e]
        first
        | exact ⟨by rw [if_pos c_66], rfl⟩
        | exact ⟨by rw [if_neg c_66], rfl⟩
    · try simp only [b01_0, bz_0, Classical.not_not] at c_34
      refine rj_bipush (pc := 37) dX11_numberAt_37 (by decide +kernel) ?_
      refine r_iload_n (pc := 39) dX11_numberAt_39 rfl ?_
      refine rj_imul (pc := 40) dX11_numberAt_40 ?_
      refine r_aload_n (pc := 41) dX11_numberAt_41 rfl (by first | rfl | exact isRefV_rf _) ?_
      refine rm_getf (pc := 42) dX11_numberAt_42 fX11_21 (by assumption) rfl ?_
      refine r_iload_n (pc := 45) dX11_numberAt_45 rfl ?_
      refine rj_iald (pc := 46) (j := k) dX11_numberAt_46 (by first | exact isM.g0 (by assumption) | exact isM.g3 (by assumption) | exact isM.g4 (by assumption) | exact isM.g8 (by assumption) | exact isM.g7 (by assumption) | exact isM.g6 (by assumption) | exact isM.g5 (by assumption) | exact isM.g1 (by assumption) | exact isM.g2 (by assumption)) (by first | assumption | exact b01_r | exact bz_r | omega | (constructor <;> omega) | exact hM _ | exact hPo _ | exact hTa _ | exact hRo _) (by first | assumption | exact b01_r | exact bz_r | omega | (constructor <;> omega) | exact hM _ | exact hPo _ | exact hTa _ | exact hRo _) (by first | assumption | exact b01_r | exact bz_r | omega | (constructor <;> omega) | exact hM _ | exact hPo _ | exact hTa _ | exact hRo _) (by omega) ?_
      refine rj_iadd (pc := 47) dX11_numberAt_47 ?_
      refine rj_bipush (pc := 48) dX11_numberAt_48 (by decide +kernel) ?_
      refine rj_isub (pc := 50) dX11_numberAt_50 ?_
      refine r_istore_n (pc := 51) dX11_numberAt_51 (Nat.le_of_ble_eq_true rfl) ?_
      dsimp only [lsSt, List.set, mLs, mEnt]
      refine rj_iinc (pc := 52) dX11_numberAt_52 (Nat.le_of_ble_eq_true rfl) rfl ?_
      dsimp only [lsSt, List.set, mLs, mEnt]
      refine r_goto (pc := 55) (tgt := 21) dX11_numberAt_55 (by decide) ?_
      exact absurd c_34 hs
  | succ n ih =>
    intro k v hs hk
    unfold stopsBy at hs
    refine r_aload_n (pc := 21) dX11_numberAt_21 rfl (by first | rfl | exact isRefV_rf _) ?_
    refine rm_getf (pc := 22) dX11_numberAt_22 fX11_21 (by assumption) rfl ?_
    refine r_iload_n (pc := 25) dX11_numberAt_25 rfl ?_
    refine rj_iald (pc := 26) (j := k) dX11_numberAt_26 (by first | exact isM.g0 (by assumption) | exact isM.g3 (by assumption) | exact isM.g4 (by assumption) | exact isM.g8 (by assumption) | exact isM.g7 (by assumption) | exact isM.g6 (by assumption) | exact isM.g5 (by assumption) | exact isM.g1 (by assumption) | exact isM.g2 (by assumption)) (by first | assumption | exact b01_r | exact bz_r | omega | (constructor <;> omega) | exact hM _ | exact hPo _ | exact hTa _ | exact hRo _) (by first | assumption | exact b01_r | exact bz_r | omega | (constructor <;> omega) | exact hM _ | exact hPo _ | exact hTa _ | exact hRo _) (by first | assumption | exact b01_r | exact bz_r | omega | (constructor <;> omega) | exact hM _ | exact hPo _ | exact hTa _ | exact hRo _) (by omega) ?_
    refine rj_bipush (pc := 27) dX11_numberAt_27 (by decide +kernel) ?_
    refine rj_bipush (pc := 29) dX11_numberAt_29 (by decide +kernel) ?_
    refine r_callS3 (pc := 31) dX11_numberAt_31 qX11_isIn kX11_46 sX11_isIn (Nat.le_of_ble_eq_true rfl) (m_isIn d (hPo _) (by decide) (by decide)) (fun v_31 h_31 q_31 => ?_)
    obtain ⟨rfl, rfl⟩ := q_31
    refine rj_if_eq (pc := 34) (tgt := 58) dX11_numberAt_34 (by decide) (by first | assumption | exact b01_r | exact bz_r | omega | (constructor <;> omega) | exact hM _ | exact hPo _ | exact hTa _ | exact hRo _) (fun c_34 => ?_) (fun c_34 => ?_)
    · try simp only [b01_0, bz_0, Classical.not_not] at c_34
      refine r_aload_n (pc := 58) dX11_numberAt_58 rfl (by first | rfl | exact isRefV_rf _) ?_
      refine rm_getf (pc := 59) dX11_numberAt_59 fX11_21 (by assumption) rfl ?_
      refine r_iload_n (pc := 62) dX11_numberAt_62 rfl ?_
      refine rj_iald (pc := 63) (j := p) dX11_numberAt_63 (by first | exact isM.g0 (by assumption) | exact isM.g3 (by assumption) | exact isM.g4 (by assumption) | exact isM.g8 (by assumption) | exact isM.g7 (by assumption) | exact isM.g6 (by assumption) | exact isM.g5 (by assumption) | exact isM.g1 (by assumption) | exact isM.g2 (by assumption)) (by first | assumption | exact b01_r | exact bz_r | omega | (constructor <;> omega) | exact hM _ | exact hPo _ | exact hTa _ | exact hRo _) (by first | assumption | exact b01_r | exact bz_r | omega | (constructor <;> omega) | exact hM _ | exact hPo _ | exact hTa _ | exact hRo _) (by first | assumption | exact b01_r | exact bz_r | omega | (constructor <;> omega) | exact hM _ | exact hPo _ | exact hTa _ | exact hRo _) (by omega) ?_
      refine rj_bipush (pc := 64) dX11_numberAt_64 (by decide +kernel) ?_
      refine rj_icmp_ne (pc := 66) (tgt := 74) dX11_numberAt_66 (by decide) (by first | assumption | exact b01_r | exact bz_r | omega | (constructor <;> omega) | exact hM _ | exact hPo _ | exact hTa _ | exact hRo _) (by first | assumption | exact b01_r | exact bz_r | omega | (constructor <;> omega) | exact hM _ | exact hPo _ | exact hTa _ | exact hRo _) (fun c_66 => ?_) (fun c_66 => ?_)
      · refine r_iload_n (pc := 74) dX11_numberAt_74 rfl ?_
        refine r_ireturn (pc := 75) .int dX11_numberAt_75 rfl (by first | rfl | assumption) ?_
        have e : naL pool (n + 1 + 1) k v = v := by rw [naL, if_neg c_34]
        rw [e]
        first
        | exact ⟨by rw [if_pos c_66], rfl⟩
        | exact ⟨by rw [if_neg c_66], rfl⟩
      · refine r_iload_n (pc := 69) dX11_numberAt_69 rfl ?_
        refine rj_ineg (pc := 70) dX11_numberAt_70 ?_
        refine r_goto (pc := 71) (tgt := 75) dX11_numberAt_71 (by decide) ?_
        refine r_ireturn (pc := 75) .int dX11_numberAt_75 rfl (by first | rfl | assumption) ?_
        have e : naL pool (n + 1 + 1) k v = v := by rw [naL, if_neg c_34]
        rw [e]
        first
        | exact ⟨by rw [if_pos c_66], rfl⟩
        | exact ⟨by rw [if_neg c_66], rfl⟩
    · try simp only [b01_0, bz_0, Classical.not_not] at c_34
      refine rj_bipush (pc := 37) dX11_numberAt_37 (by decide +kernel) ?_
      refine r_iload_n (pc := 39) dX11_numberAt_39 rfl ?_
      refine rj_imul (pc := 40) dX11_numberAt_40 ?_
      refine r_aload_n (pc := 41) dX11_numberAt_41 rfl (by first | rfl | exact isRefV_rf _) ?_
      refine rm_getf (pc := 42) dX11_numberAt_42 fX11_21 (by assumption) rfl ?_
      refine r_iload_n (pc := 45) dX11_numberAt_45 rfl ?_
      refine rj_iald (pc := 46) (j := k) dX11_numberAt_46 (by first | exact isM.g0 (by assumption) | exact isM.g3 (by assumption) | exact isM.g4 (by assumption) | exact isM.g8 (by assumption) | exact isM.g7 (by assumption) | exact isM.g6 (by assumption) | exact isM.g5 (by assumption) | exact isM.g1 (by assumption) | exact isM.g2 (by assumption)) (by first | assumption | exact b01_r | exact bz_r | omega | (constructor <;> omega) | exact hM _ | exact hPo _ | exact hTa _ | exact hRo _) (by first | assumption | exact b01_r | exact bz_r | omega | (constructor <;> omega) | exact hM _ | exact hPo _ | exact hTa _ | exact hRo _) (by first | assumption | exact b01_r | exact bz_r | omega | (constructor <;> omega) | exact hM _ | exact hPo _ | exact hTa _ | exact hRo _) (by omega) ?_
      refine rj_iadd (pc := 47) dX11_numberAt_47 ?_
      refine rj_bipush (pc := 48) dX11_numberAt_48 (by decide +kernel) ?_
      refine rj_isub (pc := 50) dX11_numberAt_50 ?_
      refine r_istore_n (pc := 51) dX11_numberAt_51 (Nat.le_of_ble_eq_true rfl) ?_
      dsimp only [lsSt, List.set, mLs, mEnt]
      refine rj_iinc (pc := 52) dX11_numberAt_52 (Nat.le_of_ble_eq_true rfl) rfl ?_
      dsimp only [lsSt, List.set, mLs, mEnt]
      refine r_goto (pc := 55) (tgt := 21) dX11_numberAt_55 (by decide) ?_
      have z := ih (k + 1) (10 * v + pool k - 48) (hs c_34) (by omega)
      rw [show naL pool (n + 1 + 1) k v = naL pool (n + 1) (k + 1) (10 * v + pool k - 48) by rw [naL, if_pos c_34]]
      exact z
end mg_28

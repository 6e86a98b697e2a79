section mg_34
set_option maxHeartbeats 4000000 in
set_option maxRecDepth 100000 in
theorem L_isBelow {G : mG} {l : Launch} (d : Nat) {h : mH} {x s : Nat} {f4 f6 f8 f9 f10 f11 f12 f13 f14 f16 f18 : Int} {m kp was pool tape pln pap rwd rw : Nat → Int}(hB : isM h x (mFs x f4 f6 f8 f9 f10 f11 f12 f13 f14 f16 f18 s) m kp was pool tape pln pap rwd rw) {C : Nat} (hC2 : C ≤ 60) (hP : parOk m C) {a o : Int} (ho : InR o) : ∀ (n : Nat) (k : Int), k < n → -5 ≤ k → k < C → RUN G l (d + 1) mX11_isBelow 2 [some (.ref x), some (.int (J a)), some (.int (J o)), some (.int (J k))] [] h (fun v h' => v = some (.int (J (b01 (upK m o n k = o)))) ∧ h' = h) := by
  dsimp only [mFs] at hB
  intro n
  induction n with
  | zero =>
    intro k h1 h2 h3
    refine r_iload_n (pc := 2) dX11_isBelow_2 rfl ?_
    refine rj_if_lt (pc := 3) (tgt := 25) dX11_isBelow_3 (by decide) (by first | assumption | exact b01_r | exact bz_r | omega | (constructor <;> omega) | exact hM _ | exact hPo _ | exact hTa _ | exact hRo _) (fun c_3 => ?_) (fun c_3 => ?_)
    · refine r_iload_n (pc := 25) dX11_isBelow_25 rfl ?_
      refine r_iload_n (pc := 26) dX11_isBelow_26 rfl ?_
      refine rj_icmp_ne (pc := 27) (tgt := 34) dX11_isBelow_27 (by decide) (by first | assumption | exact b01_r | exact bz_r | omega | (constructor <;> omega) | exact hM _ | exact hPo _ | exact hTa _ | exact hRo _) (by first | assumption | exact b01_r | exact bz_r | omega | (constructor <;> omega) | exact hM _ | exact hPo _ | exact hTa _ | exact hRo _) (fun c_27 => ?_) (fun c_27 => ?_)
      · refine rj_iconst (pc := 34) dX11_isBelow_34 ?_
        refine r_ireturn (pc := 35) .boolean dX11_isBelow_35 rfl (by first | exact nar_J0 | exact nar_J1 | exact nar_b01 | exact nar_bz) ?_
        have e1 : upK m o 0 k = k := by rfl
        rw [e1]
        first
        | exact ⟨vt c_27, rfl⟩
        | exact ⟨vf c_27, rfl⟩
      · refine rj_iconst (pc := 30) dX11_isBelow_30 ?_
        refine r_goto (pc := 31) (tgt := 35) dX11_isBelow_31 (by decide) ?_
        refine r_ireturn (pc := 35) .boolean dX11_isBelow_35 rfl (by first | exact nar_J0 | exact nar_J1 | exact nar_b01 | exact nar_bz) ?_
        have e1 : upK m o 0 k = k := by rfl
        rw [e1]
        first
        | exact ⟨vt c_27, rfl⟩
        | exact ⟨vf c_27, rfl⟩
    · exfalso; omega
  | succ n ih =>
    intro k h1 h2 h3
    refine r_iload_n (pc := 2) dX11_isBelow_2 rfl ?_
    refine rj_if_lt (pc := 3) (tgt := 25) dX11_isBelow_3 (by decide) (by first | assumption | exact b01_r | exact bz_r | omega | (constructor <;> omega) | exact hM _ | exact hPo _ | exact hTa _ | exact hRo _) (fun c_3 => ?_) (fun c_3 => ?_)
    · refine r_iload_n (pc := 25) dX11_isBelow_25 rfl ?_
      refine r_iload_n (pc := 26) dX11_isBelow_26 rfl ?_
      refine rj_icmp_ne (pc := 27) (tgt := 34) dX11_isBelow_27 (by decide) (by first | assumption | exact b01_r | exact bz_r | omega | (constructor <;> omega) | exact hM _ | exact hPo _ | exact hTa _ | exact hRo _) (by first | assumption | exact b01_r | exact bz_r | omega | (constructor <;> omega) | exact hM _ | exact hPo _ | exact hTa _ | exact hRo _) (fun c_27 => ?_) (fun c_27 => ?_)
      · refine rj_iconst (pc := 34) dX11_isBelow_34 ?_
        refine r_ireturn (pc := 35) .boolean dX11_isBelow_35 rfl (by first | exact nar_J0 | exact nar_J1 | exact nar_b01 | exact nar_bz) ?_
        have e1 : upK m o (n + 1) k = k := by rw [upK, if_neg (by omega)]
        rw [e1]
        first
        | exact ⟨vt c_27, rfl⟩
        | exact ⟨vf c_27, rfl⟩
      · refine rj_iconst (pc := 30) dX11_isBelow_30 ?_
        refine r_goto (pc := 31) (tgt := 35) dX11_isBelow_31 (by decide) ?_
        refine r_ireturn (pc := 35) .boolean dX11_isBelow_35 rfl (by first | exact nar_J0 | exact nar_J1 | exact nar_b01 | exact nar_bz) ?_
        have e1 : upK m o (n + 1) k = k := by rw [upK, if_neg (by omega)]
        rw [e1]
        first
        | exact ⟨vt c_27, rfl⟩
        | exact ⟨vf c_27, rfl⟩
    · refine r_iload_n (pc := 6) dX11_isBelow_6 rfl ?_
      refine r_iload_n (pc := 7) dX11_isBelow_7 rfl ?_
      refine rj_icmp_eq (pc := 8) (tgt := 25) dX11_isBelow_8 (by decide) (by first | assumption | exact b01_r | exact bz_r | omega | (constructor <;> omega) | exact hM _ | exact hPo _ | exact hTa _ | exact hRo _) (by first | assumption | exact b01_r | exact bz_r | omega | (constructor <;> omega) | exact hM _ | exact hPo _ | exact hTa _ | exact hRo _) (fun c_8 => ?_) (fun c_8 => ?_)
      · refine r_iload_n (pc := 25) dX11_isBelow_25 rfl ?_
        refine r_iload_n (pc := 26) dX11_isBelow_26 rfl ?_
        refine rj_icmp_ne (pc := 27) (tgt := 34) dX11_isBelow_27 (by decide) (by first | assumption | exact b01_r | exact bz_r | omega | (constructor <;> omega) | exact hM _ | exact hPo _ | exact hTa _ | exact hRo _) (by first | assumption | exact b01_r | exact bz_r | omega | (constructor <;> omega) | exact hM _ | exact hPo _ | exact hTa _ | exact hRo _) (fun c_27 => ?_) (fun c_27 => ?_)
        · refine rj_iconst (pc := 34) dX11_isBelow_34 ?_
          refine r_ireturn (pc := 35) .boolean dX11_isBelow_35 rfl (by first | exact nar_J0 | exact nar_J1 | exact nar_b01 | exact nar_bz) ?_
          have e1 : upK m o (n + 1) k = k := by rw [upK, if_neg (by omega)]
          rw [e1]
          first
          | exact ⟨vt c_27, rfl⟩
          | exact ⟨vf c_27, rfl⟩
        · refine rj_iconst (pc := 30) dX11_isBelow_30 ?_
          refine r_goto (pc := 31) (tgt := 35) dX11_isBelow_31 (by decide) ?_
          refine r_ireturn (pc := 35) .boolean dX11_isBelow_35 rfl (by first | exact nar_J0 | exact nar_J1 | exact nar_b01 | exact nar_bz) ?_
          have e1 : upK m o (n + 1) k = k := by rw [upK, if_neg (by omega)]
          rw [e1]
          first
          | exact ⟨vt c_27, rfl⟩
          | exact ⟨vf c_27, rfl⟩
      · refine r_aload_n (pc := 11) dX11_isBelow_11 rfl (by first | rfl | exact isRefV_rf _) ?_
        refine rm_getf (pc := 12) dX11_isBelow_12 fX11_11 (by assumption) rfl ?_
        refine r_iload_n (pc := 15) dX11_isBelow_15 rfl ?_
        refine rj_iconst (pc := 16) dX11_isBelow_16 ?_
        refine r_callS2 (pc := 17) dX11_isBelow_17 qX11_ofScope kX11_42 sX11_ofScope (Nat.le_of_ble_eq_true rfl) (m_ofScope d) (fun v_17 h_17 q_17 => ?_)
        obtain ⟨rfl, rfl⟩ := q_17
        refine rj_iald (pc := 20) (j := (19 + 4 * k).toNat) dX11_isBelow_20 (by first | exact isM.g0 (by assumption) | exact isM.g3 (by assumption) | exact isM.g4 (by assumption) | exact isM.g8 (by assumption) | exact isM.g7 (by assumption) | exact isM.g6 (by assumption) | exact isM.g5 (by assumption) | exact isM.g1 (by assumption) | exact isM.g2 (by assumption)) (by first | assumption | exact b01_r | exact bz_r | omega | (constructor <;> omega) | exact hM _ | exact hPo _ | exact hTa _ | exact hRo _) (by first | assumption | exact b01_r | exact bz_r | omega | (constructor <;> omega) | exact hM _ | exact hPo _ | exact hTa _ | exact hRo _) (by first | assumption | exact b01_r | exact bz_r | omega | (constructor <;> omega) | exact hM _ | exact hPo _ | exact hTa _ | exact hRo _) (by omega) ?_
        refine r_istore_n (pc := 21) dX11_isBelow_21 (Nat.le_of_ble_eq_true rfl) ?_
        dsimp only [lsSt, List.set, mLs, mEnt]
        refine r_goto (pc := 22) (tgt := 2) dX11_isBelow_22 (by decide) ?_
        obtain ⟨p1, p2⟩ := hP k (by omega) h3
        have z := ih _ (by omega) p1 (by omega)
        rw [show upK m o (n + 1) k = upK m o n (m (19 + 4 * k).toNat) by rw [upK, if_pos ⟨by omega, c_8⟩]]
        exact z
end mg_34

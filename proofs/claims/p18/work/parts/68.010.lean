section mg_70
set_option maxHeartbeats 4000000 in
set_option maxRecDepth 100000 in
theorem L_shuts {G : mG} {l : Launch} {D : Nat} (hD : 280 ≤ D) {x s : Nat} {f4 f6 f8 f9 f10 f11 f12 f13 f14 f16 f18 : Int} {kp was pool tape pln pap rwd rw : Nat → Int} {cl : (Nat → Int) → Nat → (Nat → Int) → Prop} {sh : (Nat → Int) → Int → (Nat → Int) → Prop} (hcl : ∀ (m1 m2 : Nat → Int) (t : Nat) (h : mH), isM h x (mFs x f4 f6 f8 f9 f10 f11 f12 f13 f14 f16 f18 s) m1 kp was pool tape pln pap rwd rw → cl m1 t m2 → RUNM G l D mX11_closes [.ref x, .int (J (t : Int))] h (fun v h' => v = none ∧ isM h' x (mFs x f4 f6 f8 f9 f10 f11 f12 f13 f14 f16 f18 s) m2 kp was pool tape pln pap rwd rw ∧ Same (mBlk x) h h')) (hsh : ∀ (m1 m2 : Nat → Int) (e : Int) (h : mH), isM h x (mFs x f4 f6 f8 f9 f10 f11 f12 f13 f14 f16 f18 s) m1 kp was pool tape pln pap rwd rw → sh m1 e m2 → RUNM G l D mX11_shuts [.ref x, .int (J e)] h (fun v h' => v = none ∧ isM h' x (mFs x f4 f6 f8 f9 f10 f11 f12 f13 f14 f16 f18 s) m2 kp was pool tape pln pap rwd rw ∧ Same (mBlk x) h h')) {a : Int} (ha : 0 ≤ a ∧ a ≤ 59) {m2 : Nat → Int} : ∀ (k : Nat) (m : Nat → Int) (h : mH), isM h x (mFs x f4 f6 f8 f9 f10 f11 f12 f13 f14 f16 f18 s) m kp was pool tape pln pap rwd rw → shLoopR cl sh a k m m2 → RUN G l (D + 1) mX11_shuts 26 [some (.ref x), some (.int (J a)), some (.int (J (lastI m a)))] [] h (fun v h' => v = none ∧ isM h' x (mFs x f4 f6 f8 f9 f10 f11 f12 f13 f14 f16 f18 s) (updI m2 (18 + 4 * a).toNat (if a = 0 then 0 else 2)) kp was pool tape pln pap rwd rw ∧ Same (mBlk x) h h') := by
  have fin : ∀ (h : mH), isM h x (mFs x f4 f6 f8 f9 f10 f11 f12 f13 f14 f16 f18 s) m2 kp was pool tape pln pap rwd rw → RUN G l (D + 1) mX11_shuts 61 [some (.ref x), some (.int (J a)), some (.int (J (lastI m2 a)))] [] h (fun v h' => v = none ∧ isM h' x (mFs x f4 f6 f8 f9 f10 f11 f12 f13 f14 f16 f18 s) (updI m2 (18 + 4 * a).toNat (if a = 0 then 0 else 2)) kp was pool tape pln pap rwd rw ∧ Same (mBlk x) h h') := by
    intro h hB
    have hB0 := hB
    dsimp only [mFs] at hB
    refine r_aload_n (pc := 61) dX11_shuts_61 rfl (by first | rfl | exact isRefV_rf _) ?_
    refine rm_getf (pc := 62) dX11_shuts_62 fX11_11 (by assumption) rfl ?_
    refine r_iload_n (pc := 65) dX11_shuts_65 rfl ?_
    refine rj_iconst (pc := 66) dX11_shuts_66 ?_
    refine r_callS2 (pc := 67) dX11_shuts_67 qX11_ofScope kX11_42 sX11_ofScope (Nat.le_of_ble_eq_true rfl) (m_ofScope _) (fun v_67 h_67 q_67 => ?_)
    obtain ⟨rfl, rfl⟩ := q_67
    refine r_iload_n (pc := 70) dX11_shuts_70 rfl ?_
    refine rj_if_ne (pc := 71) (tgt := 78) dX11_shuts_71 (by decide) (by first | assumption | exact b01_r | exact bz_r | omega | (constructor <;> omega) | exact hM _ | exact hPo _ | exact hTa _ | exact hRo _) (fun c_71 => ?_) (fun c_71 => ?_)
    · try simp only [b01_0, bz_0, Classical.not_not] at c_71
      refine rj_iconst (pc := 78) dX11_shuts_78 ?_
      rw [show (J 2) = J (if a = 0 then 0 else 2) by rw [if_neg c_71]]
      first | refine rm_iast0 (pc := 79) (j := (18 + 4 * a).toNat) dX11_shuts_79 (by assumption) (by first | assumption | exact b01_r | exact bz_r | omega | (constructor <;> omega) | exact hM _ | exact hPo _ | exact hTa _ | exact hRo _) (by first | assumption | exact b01_r | exact bz_r | omega | (constructor <;> omega) | exact hM _ | exact hPo _ | exact hTa _ | exact hRo _) (by first | assumption | exact b01_r | exact bz_r | omega | (constructor <;> omega) | exact hM _ | exact hPo _ | exact hTa _ | exact hRo _) (by omega) (fun h_79 hB_79 hS_79 => ?_)
      refine r_return (pc := 80) dX11_shuts_80 rfl ?_
      exact ⟨rfl, hB_79, hS_79⟩
    · try simp only [b01_0, bz_0, Classical.not_not] at c_71
      refine rj_iconst (pc := 74) dX11_shuts_74 ?_
      refine r_goto (pc := 75) (tgt := 79) dX11_shuts_75 (by decide) ?_
      rw [show (J 0) = J (if a = 0 then 0 else 2) by rw [if_pos c_71]]
      first | refine rm_iast0 (pc := 79) (j := (18 + 4 * a).toNat) dX11_shuts_79 (by assumption) (by first | assumption | exact b01_r | exact bz_r | omega | (constructor <;> omega) | exact hM _ | exact hPo _ | exact hTa _ | exact hRo _) (by first | assumption | exact b01_r | exact bz_r | omega | (constructor <;> omega) | exact hM _ | exact hPo _ | exact hTa _ | exact hRo _) (by first | assumption | exact b01_r | exact bz_r | omega | (constructor <;> omega) | exact hM _ | exact hPo _ | exact hTa _ | exact hRo _) (by omega) (fun h_79 hB_79 hS_79 => ?_)
      refine r_return (pc := 80) dX11_shuts_80 rfl ?_
      exact ⟨rfl, hB_79, hS_79⟩
  intro k
  induction k with
  | zero =>
    intro m h hB hL
    obtain ⟨hok, h1, hlt, rfl⟩ := hL
    have hr := lastI_r hok h1 a
    have hB0 := hB
    dsimp only [mFs] at hB
    refine r_iload_n (pc := 26) dX11_shuts_26 rfl ?_
    refine rj_if_lt (pc := 27) (tgt := 61) dX11_shuts_27 (by decide) (by first | assumption | exact b01_r | exact bz_r | omega | (constructor <;> omega) | exact hM _ | exact hPo _ | exact hTa _ | exact hRo _) (fun c_27 => ?_) (fun c_27 => ?_)
    · exact fin h hB0
    · exfalso; omega
  | succ k ih =>
    intro m h hB hL
    obtain ⟨hok, h1, hL⟩ := hL
    have hr := lastI_r hok h1 a
    obtain ⟨hM, k0, k1, k2, k3, k4, k5, k7⟩ := hok
    have hB0 := hB
    rcases hL with ⟨hlt, rfl⟩ | ⟨hlt, m1, hc, hL⟩ | ⟨hlt, m1, hc, hL⟩
    · dsimp only [mFs] at hB
      refine r_iload_n (pc := 26) dX11_shuts_26 rfl ?_
      refine rj_if_lt (pc := 27) (tgt := 61) dX11_shuts_27 (by decide) (by first | assumption | exact b01_r | exact bz_r | omega | (constructor <;> omega) | exact hM _ | exact hPo _ | exact hTa _ | exact hRo _) (fun c_27 => ?_) (fun c_27 => ?_)
      · exact fin h hB0
      · exfalso; omega
    · dsimp only [mFs] at hB
      obtain ⟨hok1, h11⟩ := shLoopR_ok k m1 m2 hL
      obtain ⟨hM1, j0, j1, -⟩ := id hok1
      refine r_iload_n (pc := 26) dX11_shuts_26 rfl ?_
      refine rj_if_lt (pc := 27) (tgt := 61) dX11_shuts_27 (by decide) (by first | assumption | exact b01_r | exact bz_r | omega | (constructor <;> omega) | exact hM _ | exact hPo _ | exact hTa _ | exact hRo _) (fun c_27 => ?_) (fun c_27 => ?_)
      · exfalso; omega
      · refine r_iload_n (pc := 30) dX11_shuts_30 rfl ?_
        refine rj_bipush (pc := 31) dX11_shuts_31 (by decide +kernel) ?_
        refine rj_icmp_ge (pc := 33) (tgt := 44) dX11_shuts_33 (by decide) (by first | assumption | exact b01_r | exact bz_r | omega | (constructor <;> omega) | exact hM _ | exact hPo _ | exact hTa _ | exact hRo _) (by first | assumption | exact b01_r | exact bz_r | omega | (constructor <;> omega) | exact hM _ | exact hPo _ | exact hTa _ | exact hRo _) (fun c_33 => ?_) (fun c_33 => ?_)
        · exfalso; omega
        · refine r_aload_n (pc := 36) dX11_shuts_36 rfl (by first | rfl | exact isRefV_rf _) ?_
          refine r_iload_n (pc := 37) dX11_shuts_37 rfl ?_
          refine r_callV1 (pc := 38) dX11_shuts_38 qX11_closes kX11_153 vX11_closes (by exact isM.gx (by assumption)) rfl rfl (Nat.le_of_ble_eq_true rfl) (by have y := hcl m m1 (lastI m a).toNat _ hB0 hc; rw [show (((lastI m a).toNat : Nat) : Int) = lastI m a by omega] at y; exact y) (fun v_38 h_38 q_38 => ?_)
          obtain ⟨rfl, hB_38, S_38⟩ := q_38
          refine r_goto (pc := 41) (tgt := 52) dX11_shuts_41 (by decide) ?_
          refine r_aload_n (pc := 52) dX11_shuts_52 rfl (by first | rfl | exact isRefV_rf _) ?_
          refine r_iload_n (pc := 53) dX11_shuts_53 rfl ?_
          refine r_callV1 (pc := 54) dX11_shuts_54 qX11_lastOf kX11_149 vX11_lastOf (by exact isM.gx (by assumption)) rfl rfl (Nat.le_of_ble_eq_true rfl) (by have y := m_lastOf (G := G) (l := l) (D - 3) hB_38 hM1 (N := (m1 1).toNat) (C := (m1 0).toNat) (by omega) (by omega) (by omega) (by omega) (by omega) (a := a) ⟨by omega, by omega⟩; exact y.deeper (by omega)) (fun v_54 h_54 q_54 => ?_)
          obtain ⟨rfl, rfl⟩ := q_54
          refine r_istore_n (pc := 57) dX11_shuts_57 (Nat.le_of_ble_eq_true rfl) ?_
          dsimp only [lsSt, List.set, mLs, mEnt]
          refine r_goto (pc := 58) (tgt := 26) dX11_shuts_58 (by decide) ?_
          exact (ih m1 _ hB_38 hL).mono (fun v h' q => ⟨q.1, q.2.1, S_38.trans q.2.2⟩)
    · dsimp only [mFs] at hB
      obtain ⟨hok1, h11⟩ := shLoopR_ok k m1 m2 hL
      obtain ⟨hM1, j0, j1, -⟩ := id hok1
      refine r_iload_n (pc := 26) dX11_shuts_26 rfl ?_
      refine rj_if_lt (pc := 27) (tgt := 61) dX11_shuts_27 (by decide) (by first | assumption | exact b01_r | exact bz_r | omega | (constructor <;> omega) | exact hM _ | exact hPo _ | exact hTa _ | exact hRo _) (fun c_27 => ?_) (fun c_27 => ?_)
      · exfalso; omega
      · refine r_iload_n (pc := 30) dX11_shuts_30 rfl ?_
        refine rj_bipush (pc := 31) dX11_shuts_31 (by decide +kernel) ?_
        refine rj_icmp_ge (pc := 33) (tgt := 44) dX11_shuts_33 (by decide) (by first | assumption | exact b01_r | exact bz_r | omega | (constructor <;> omega) | exact hM _ | exact hPo _ | exact hTa _ | exact hRo _) (by first | assumption | exact b01_r | exact bz_r | omega | (constructor <;> omega) | exact hM _ | exact hPo _ | exact hTa _ | exact hRo _) (fun c_33 => ?_) (fun c_33 => ?_)
        · refine r_aload_n (pc := 44) dX11_shuts_44 rfl (by first | rfl | exact isRefV_rf _) ?_
          refine r_iload_n (pc := 45) dX11_shuts_45 rfl ?_
          refine rj_bipush (pc := 46) dX11_shuts_46 (by decide +kernel) ?_
          refine rj_isub (pc := 48) dX11_shuts_48 ?_
          refine r_callV1 (pc := 49) dX11_shuts_49 qX11_shuts kX11_157 vX11_shuts (by exact isM.gx (by assumption)) rfl rfl (Nat.le_of_ble_eq_true rfl) (hsh m m1 (lastI m a - 100) _ hB0 hc) (fun v_49 h_49 q_49 => ?_)
          obtain ⟨rfl, hB_49, S_49⟩ := q_49
          refine r_aload_n (pc := 52) dX11_shuts_52 rfl (by first | rfl | exact isRefV_rf _) ?_
          refine r_iload_n (pc := 53) dX11_shuts_53 rfl ?_
          refine r_callV1 (pc := 54) dX11_shuts_54 qX11_lastOf kX11_149 vX11_lastOf (by exact isM.gx (by assumption)) rfl rfl (Nat.le_of_ble_eq_true rfl) (by have y := m_lastOf (G := G) (l := l) (D - 3) hB_49 hM1 (N := (m1 1).toNat) (C := (m1 0).toNat) (by omega) (by omega) (by omega) (by omega) (by omega) (a := a) ⟨by omega, by omega⟩; exact y.deeper (by omega)) (fun v_54 h_54 q_54 => ?_)
          obtain ⟨rfl, rfl⟩ := q_54
          refine r_istore_n (pc := 57) dX11_shuts_57 (Nat.le_of_ble_eq_true rfl) ?_
          dsimp only [lsSt, List.set, mLs, mEnt]
          refine r_goto (pc := 58) (tgt := 26) dX11_shuts_58 (by decide) ?_
          exact (ih m1 _ hB_49 hL).mono (fun v h' q => ⟨q.1, q.2.1, S_49.trans q.2.2⟩)
        · exfalso; omega
end mg_70

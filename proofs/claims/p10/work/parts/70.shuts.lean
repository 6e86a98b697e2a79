/-! ===== the reference: shutting a scope, a task that is over ===== -/
theorem loT_v {m : Nat → Int} {s : Int} : ∀ (n t : Nat) (r : Int × Int), (r.1 = -5 ∨ (0 ≤ r.1 ∧ r.1 < t)) → ((loT m s n t r).1 = -5 ∨ (0 ≤ (loT m s n t r).1 ∧ (loT m s n t r).1 < t + n))
  | 0, t, r, h => by unfold loT; omega
  | n + 1, t, r, h => by
    unfold loT
    have := loT_v (m := m) (s := s) n (t + 1) (if heldB m t = true ∧ m (259 + 14 * t) = s ∧ r.2 ≤ m (260 + 14 * t) then ((t : Int), m (260 + 14 * t)) else r) (by split <;> (try simp only []) <;> omega)
    omega
theorem loS_v {m : Nat → Int} {s : Int} {N : Int} : ∀ (n c : Nat) (r : Int × Int), 1 ≤ c → (r.1 = -5 ∨ (0 ≤ r.1 ∧ r.1 < N) ∨ (101 ≤ r.1 ∧ r.1 < 100 + c)) → ((loS m s n c r).1 = -5 ∨ (0 ≤ (loS m s n c r).1 ∧ (loS m s n c r).1 < N) ∨ (101 ≤ (loS m s n c r).1 ∧ (loS m s n c r).1 < 100 + c + n))
  | 0, c, r, h1, h => by unfold loS; omega
  | n + 1, c, r, h1, h => by
    unfold loS
    have := loS_v (m := m) (s := s) (N := N) n (c + 1) (if openB m c = true ∧ m (19 + 4 * c) = s ∧ r.2 ≤ m (20 + 4 * c) then (100 + (c : Int), m (20 + 4 * c)) else r) (by omega) (by split <;> (try simp only []) <;> omega)
    omega
theorem lastM_v (m : Nat → Int) (s : Int) (N C : Nat) (hC : 1 ≤ C) : lastM m s N C = -5 ∨ (0 ≤ lastM m s N C ∧ lastM m s N C < N) ∨ (101 ≤ lastM m s N C ∧ lastM m s N C < 100 + C) := by
  have h := loS_v (m := m) (s := s) (N := (N : Int)) (C - 1) 1 (loT m s N 0 (-5, -1)) (Nat.le_refl _) (by have := loT_v (m := m) (s := s) N 0 (-5, -1) (Or.inl rfl); omega)
  unfold lastM
  omega
def lastI (m : Nat → Int) (s : Int) : Int := lastM m s (m 1).toNat (m 0).toNat
theorem lastI_r {m : Nat → Int} (hok : mOk m) (h1 : 1 ≤ m 0) (s : Int) : lastI m s = -5 ∨ (0 ≤ lastI m s ∧ lastI m s < m 1) ∨ (101 ≤ lastI m s ∧ lastI m s < 100 + m 0) := by
  obtain ⟨hM, k0, k1, k2, k3, k4, k5, k7⟩ := hok
  have := lastM_v m s (m 1).toNat (m 0).toNat (by omega)
  unfold lastI
  omega
/-- the loop of shuts: cl closes a thing, sh shuts a scope -/
def shLoopR (cl : (Nat → Int) → Nat → (Nat → Int) → Prop) (sh : (Nat → Int) → Int → (Nat → Int) → Prop) (s : Int) : Nat → (Nat → Int) → (Nat → Int) → Prop
  | 0, m, m' => mOk m ∧ 1 ≤ m 0 ∧ lastI m s < 0 ∧ m' = m
  | k + 1, m, m' => mOk m ∧ 1 ≤ m 0 ∧ ((lastI m s < 0 ∧ m' = m) ∨ ((0 ≤ lastI m s ∧ lastI m s < 100) ∧ ∃ m1, cl m (lastI m s).toNat m1 ∧ shLoopR cl sh s k m1 m') ∨ (100 ≤ lastI m s ∧ ∃ m1, sh m (lastI m s - 100) m1 ∧ shLoopR cl sh s k m1 m'))
theorem shLoopR_ok {cl : (Nat → Int) → Nat → (Nat → Int) → Prop} {sh : (Nat → Int) → Int → (Nat → Int) → Prop} {s : Int} : ∀ (k : Nat) (m m' : Nat → Int), shLoopR cl sh s k m m' → mOk m ∧ 1 ≤ m 0
  | 0, _, _, h => ⟨h.1, h.2.1⟩
  | _ + 1, _, _, h => ⟨h.1, h.2.1⟩
/-- a scope is shut; scopes in it go at most so deep -/
def shutsR (pool : Nat → Int) (sink : Int) : Nat → (Nat → Int) → Int → (Nat → Int) → Prop
  | 0, _, _, _ => False
  | n + 1, m, s, m' => mOk m ∧ InR s ∧ ((¬ openP m s ∧ m' = m) ∨ (openP m s ∧ ∃ k m2, shLoopR (closesR pool sink 91) (shutsR pool sink n) s k (updI m (18 + 4 * s).toNat 1) m2 ∧ m' = updI m2 (18 + 4 * s).toNat (if s = 0 then 0 else 2)))
set_option maxHeartbeats 4000000 in
set_option maxRecDepth 100000 in
theorem L_shuts {G : mG} {l : Launch} {D : Nat} (hD : 280 ≤ D) {x s : Nat} {f4 f6 f8 f9 f10 f11 f12 f13 f14 f16 f18 : Int} {kp was pool tape pln pap rwd rw : Nat → Int} {cl : (Nat → Int) → Nat → (Nat → Int) → Prop} {sh : (Nat → Int) → Int → (Nat → Int) → Prop} (hcl : ∀ (m1 m2 : Nat → Int) (t : Nat) (h : mH), isM h x (mFs x f4 f6 f8 f9 f10 f11 f12 f13 f14 f16 f18 s) m1 kp was pool tape pln pap rwd rw → cl m1 t m2 → RUNM G l D mX11_closes [.ref x, .int (J (t : Int))] h (fun v h' => v = none ∧ isM h' x (mFs x f4 f6 f8 f9 f10 f11 f12 f13 f14 f16 f18 s) m2 kp was pool tape pln pap rwd rw ∧ Same (mBlk x) h h')) (hsh : ∀ (m1 m2 : Nat → Int) (e : Int) (h : mH), isM h x (mFs x f4 f6 f8 f9 f10 f11 f12 f13 f14 f16 f18 s) m1 kp was pool tape pln pap rwd rw → sh m1 e m2 → RUNM G l D mX11_shuts [.ref x, .int (J e)] h (fun v h' => v = none ∧ isM h' x (mFs x f4 f6 f8 f9 f10 f11 f12 f13 f14 f16 f18 s) m2 kp was pool tape pln pap rwd rw ∧ Same (mBlk x) h h')) {a : Int} (ha : 0 ≤ a ∧ a ≤ 59) {m2 : Nat → Int} : ∀ (k : Nat) (m : Nat → Int) (h : mH), isM h x (mFs x f4 f6 f8 f9 f10 f11 f12 f13 f14 f16 f18 s) m kp was pool tape pln pap rwd rw → shLoopR cl sh a k m m2 → RUN G l (D + 1) mX11_shuts 26 [some (.ref x), some (.int (J a)), some (.int (J (lastI m a)))] [] h (fun v h' => v = none ∧ isM h' x (mFs x f4 f6 f8 f9 f10 f11 f12 f13 f14 f16 f18 s) (updI m2 (18 + 4 * a).toNat (if a = 0 then 0 else 2)) kp was pool tape pln pap rwd rw ∧ Same (mBlk x) h h') := by
  have fin : ∀ (h : mH), isM h x (mFs x f4 f6 f8 f9 f10 f11 f12 f13 f14 f16 f18 s) m2 kp was pool tape pln pap rwd rw → RUN G l (D + 1) mX11_shuts 61 [some (.ref x), some (.int (J a)), some (.int (J (lastI m2 a)))] [] h (fun v h' => v = none ∧ isM h' x (mFs x f4 f6 f8 f9 f10 f11 f12 f13 f14 f16 f18 s) (updI m2 (18 + 4 * a).toNat (if a = 0 then 0 else 2)) kp was pool tape pln pap rwd rw ∧ Same (mBlk x) h h') := by
    intro h hB
    have hB0 := hB
    dsimp only [mFs] at hB
    refine r_aload_n (pc := 61) dX11_shuts_61 rfl (by first | rfl | exact isRefV_rf _) ?_
    refine rm_getf (pc := 62) dX11_shuts_62 fX11_11 (by assumption) rfl ?_
    refine r_iload_n (pc := 65) dX11_shuts_65 rfl ?_
    refine rj_iconst (pc := 66) dX11_shuts_66 ?_
    refine r_callS2 (pc := 67) dX11_shuts_67 qX11_ofScope kX11_42 sX11_ofScope (Nat.le_of_ble_eq_true rfl) (m_ofScope _) (fun v_67 h_67 q_67 => ?_)
    obtain ⟨rfl, rfl⟩ := q_67
    refine r_iload_n (pc := 70) dX11_shuts_70 rfl ?_
    refine rj_if_ne (pc := 71) (tgt := 78) dX11_shuts_71 (by decide) (by first | assumption | exact b01_r | exact bz_r | omega | (constructor <;> omega) | exact hM _ | exact hPo _ | exact hTa _ | exact hRo _) (fun c_71 => ?_) (fun c_71 => ?_)
    · try simp only [b01_0, bz_0, Classical.not_not] at c_71
      refine rj_iconst (pc := 78) dX11_shuts_78 ?_
      rw [show (J 2) = J (if a = 0 then 0 else 2) by rw [if_neg c_71]]
      first | refine rm_iast0 (pc := 79) (j := (18 + 4 * a).toNat) dX11_shuts_79 (by assumption) (by first | assumption | exact b01_r | exact bz_r | omega | (constructor <;> omega) | exact hM _ | exact hPo _ | exact hTa _ | exact hRo _) (by first | assumption | exact b01_r | exact bz_r | omega | (constructor <;> omega) | exact hM _ | exact hPo _ | exact hTa _ | exact hRo _) (by first | assumption | exact b01_r | exact bz_r | omega | (constructor <;> omega) | exact hM _ | exact hPo _ | exact hTa _ | exact hRo _) (by omega) (fun h_79 hB_79 hS_79 => ?_)
      refine r_return (pc := 80) dX11_shuts_80 rfl ?_
      exact ⟨rfl, hB_79, hS_79⟩
    · try simp only [b01_0, bz_0, Classical.not_not] at c_71
      refine rj_iconst (pc := 74) dX11_shuts_74 ?_
      refine r_goto (pc := 75) (tgt := 79) dX11_shuts_75 (by decide) ?_
      rw [show (J 0) = J (if a = 0 then 0 else 2) by rw [if_pos c_71]]
      first | refine rm_iast0 (pc := 79) (j := (18 + 4 * a).toNat) dX11_shuts_79 (by assumption) (by first | assumption | exact b01_r | exact bz_r | omega | (constructor <;> omega) | exact hM _ | exact hPo _ | exact hTa _ | exact hRo _) (by first | assumption | exact b01_r | exact bz_r | omega | (constructor <;> omega) | exact hM _ | exact hPo _ | exact hTa _ | exact hRo _) (by first | assumption | exact b01_r | exact bz_r | omega | (constructor <;> omega) | exact hM _ | exact hPo _ | exact hTa _ | exact hRo _) (by omega) (fun h_79 hB_79 hS_79 => ?_)
      refine r_return (pc := 80) dX11_shuts_80 rfl ?_
      exact ⟨rfl, hB_79, hS_79⟩
  intro k
  induction k with
  | zero =>
    intro m h hB hL
    obtain ⟨hok, h1, hlt, rfl⟩ := hL
    have hr := lastI_r hok h1 a
    have hB0 := hB
    dsimp only [mFs] at hB
    refine r_iload_n (pc := 26) dX11_shuts_26 rfl ?_
    refine rj_if_lt (pc := 27) (tgt := 61) dX11_shuts_27 (by decide) (by first | assumption | exact b01_r | exact bz_r | omega | (constructor <;> omega) | exact hM _ | exact hPo _ | exact hTa _ | exact hRo _) (fun c_27 => ?_) (fun c_27 => ?_)
    · exact fin h hB0
    · exfalso; omega
  | succ k ih =>
    intro m h hB hL
    obtain ⟨hok, h1, hL⟩ := hL
    have hr := lastI_r hok h1 a
    obtain ⟨hM, k0, k1, k2, k3, k4, k5, k7⟩ := hok
    have hB0 := hB
    rcases hL with ⟨hlt, rfl⟩ | ⟨hlt, m1, hc, hL⟩ | ⟨hlt, m1, hc, hL⟩
    · dsimp only [mFs] at hB
      refine r_iload_n (pc := 26) dX11_shuts_26 rfl ?_
      refine rj_if_lt (pc := 27) (tgt := 61) dX11_shuts_27 (by decide) (by first | assumption | exact b01_r | exact bz_r | omega | (constructor <;> omega) | exact hM _ | exact hPo _ | exact hTa _ | exact hRo _) (fun c_27 => ?_) (fun c_27 => ?_)
      · exact fin h hB0
      · exfalso; omega
    · dsimp only [mFs] at hB
      obtain ⟨hok1, h11⟩ := shLoopR_ok k m1 m2 hL
      obtain ⟨hM1, j0, j1, -⟩ := id hok1
      refine r_iload_n (pc := 26) dX11_shuts_26 rfl ?_
      refine rj_if_lt (pc := 27) (tgt := 61) dX11_shuts_27 (by decide) (by first | assumption | exact b01_r | exact bz_r | omega | (constructor <;> omega) | exact hM _ | exact hPo _ | exact hTa _ | exact hRo _) (fun c_27 => ?_) (fun c_27 => ?_)
      · exfalso; omega
      · refine r_iload_n (pc := 30) dX11_shuts_30 rfl ?_
        refine rj_bipush (pc := 31) dX11_shuts_31 (by decide +kernel) ?_
        refine rj_icmp_ge (pc := 33) (tgt := 44) dX11_shuts_33 (by decide) (by first | assumption | exact b01_r | exact bz_r | omega | (constructor <;> omega) | exact hM _ | exact hPo _ | exact hTa _ | exact hRo _) (by first | assumption | exact b01_r | exact bz_r | omega | (constructor <;> omega) | exact hM _ | exact hPo _ | exact hTa _ | exact hRo _) (fun c_33 => ?_) (fun c_33 => ?_)
        · exfalso; omega
        · refine r_aload_n (pc := 36) dX11_shuts_36 rfl (by first | rfl | exact isRefV_rf _) ?_
          refine r_iload_n (pc := 37) dX11_shuts_37 rfl ?_
          refine r_callV1 (pc := 38) dX11_shuts_38 qX11_closes kX11_153 vX11_closes (by exact isM.gx (by assumption)) rfl rfl (Nat.le_of_ble_eq_true rfl) (by have y := hcl m m1 (lastI m a).toNat _ hB0 hc; rw [show (((lastI m a).toNat : Nat) : Int) = lastI m a by omega] at y; exact y) (fun v_38 h_38 q_38 => ?_)
          obtain ⟨rfl, hB_38, S_38⟩ := q_38
          refine r_goto (pc := 41) (tgt := 52) dX11_shuts_41 (by decide) ?_
          refine r_aload_n (pc := 52) dX11_shuts_52 rfl (by first | rfl | exact isRefV_rf _) ?_
          refine r_iload_n (pc := 53) dX11_shuts_53 rfl ?_
          refine r_callV1 (pc := 54) dX11_shuts_54 qX11_lastOf kX11_149 vX11_lastOf (by exact isM.gx (by assumption)) rfl rfl (Nat.le_of_ble_eq_true rfl) (by have y := m_lastOf (G := G) (l := l) (D - 3) hB_38 hM1 (N := (m1 1).toNat) (C := (m1 0).toNat) (by omega) (by omega) (by omega) (by omega) (by omega) (a := a) ⟨by omega, by omega⟩; exact y.deeper (by omega)) (fun v_54 h_54 q_54 => ?_)
          obtain ⟨rfl, rfl⟩ := q_54
          refine r_istore_n (pc := 57) dX11_shuts_57 (Nat.le_of_ble_eq_true rfl) ?_
          dsimp only [lsSt, List.set, mLs, mEnt]
          refine r_goto (pc := 58) (tgt := 26) dX11_shuts_58 (by decide) ?_
          exact (ih m1 _ hB_38 hL).mono (fun v h' q => ⟨q.1, q.2.1, S_38.trans q.2.2⟩)
    · dsimp only [mFs] at hB
      obtain ⟨hok1, h11⟩ := shLoopR_ok k m1 m2 hL
      obtain ⟨hM1, j0, j1, -⟩ := id hok1
      refine r_iload_n (pc := 26) dX11_shuts_26 rfl ?_
      refine rj_if_lt (pc := 27) (tgt := 61) dX11_shuts_27 (by decide) (by first | assumption | exact b01_r | exact bz_r | omega | (constructor <;> omega) | exact hM _ | exact hPo _ | exact hTa _ | exact hRo _) (fun c_27 => ?_) (fun c_27 => ?_)
      · exfalso; omega
      · refine r_iload_n (pc := 30) dX11_shuts_30 rfl ?_
        refine rj_bipush (pc := 31) dX11_shuts_31 (by decide +kernel) ?_
        refine rj_icmp_ge (pc := 33) (tgt := 44) dX11_shuts_33 (by decide) (by first | assumption | exact b01_r | exact bz_r | omega | (constructor <;> omega) | exact hM _ | exact hPo _ | exact hTa _ | exact hRo _) (by first | assumption | exact b01_r | exact bz_r | omega | (constructor <;> omega) | exact hM _ | exact hPo _ | exact hTa _ | exact hRo _) (fun c_33 => ?_) (fun c_33 => ?_)
        · refine r_aload_n (pc := 44) dX11_shuts_44 rfl (by first | rfl | exact isRefV_rf _) ?_
          refine r_iload_n (pc := 45) dX11_shuts_45 rfl ?_
          refine rj_bipush (pc := 46) dX11_shuts_46 (by decide +kernel) ?_
          refine rj_isub (pc := 48) dX11_shuts_48 ?_
          refine r_callV1 (pc := 49) dX11_shuts_49 qX11_shuts kX11_157 vX11_shuts (by exact isM.gx (by assumption)) rfl rfl (Nat.le_of_ble_eq_true rfl) (hsh m m1 (lastI m a - 100) _ hB0 hc) (fun v_49 h_49 q_49 => ?_)
          obtain ⟨rfl, hB_49, S_49⟩ := q_49
          refine r_aload_n (pc := 52) dX11_shuts_52 rfl (by first | rfl | exact isRefV_rf _) ?_
          refine r_iload_n (pc := 53) dX11_shuts_53 rfl ?_
          refine r_callV1 (pc := 54) dX11_shuts_54 qX11_lastOf kX11_149 vX11_lastOf (by exact isM.gx (by assumption)) rfl rfl (Nat.le_of_ble_eq_true rfl) (by have y := m_lastOf (G := G) (l := l) (D - 3) hB_49 hM1 (N := (m1 1).toNat) (C := (m1 0).toNat) (by omega) (by omega) (by omega) (by omega) (by omega) (a := a) ⟨by omega, by omega⟩; exact y.deeper (by omega)) (fun v_54 h_54 q_54 => ?_)
          obtain ⟨rfl, rfl⟩ := q_54
          refine r_istore_n (pc := 57) dX11_shuts_57 (Nat.le_of_ble_eq_true rfl) ?_
          dsimp only [lsSt, List.set, mLs, mEnt]
          refine r_goto (pc := 58) (tgt := 26) dX11_shuts_58 (by decide) ?_
          exact (ih m1 _ hB_49 hL).mono (fun v h' q => ⟨q.1, q.2.1, S_49.trans q.2.2⟩)
        · exfalso; omega
set_option maxHeartbeats 4000000 in
set_option maxRecDepth 100000 in
theorem m_shuts {G : mG} {l : Launch} {x s : Nat} {f4 f6 f8 f9 f10 f11 f12 f13 f14 f16 f18 : Int} {kp was pool tape pln pap rwd rw : Nat → Int} (hPo : ∀ q, InR (pool q)) (hs : InR f14) : ∀ (N : Nat) (m m' : Nat → Int) (a : Int) (h : mH), isM h x (mFs x f4 f6 f8 f9 f10 f11 f12 f13 f14 f16 f18 s) m kp was pool tape pln pap rwd rw → shutsR pool f14 N m a m' → RUNM G l (280 + N) mX11_shuts [.ref x, .int (J a)] h (fun v h' => v = none ∧ isM h' x (mFs x f4 f6 f8 f9 f10 f11 f12 f13 f14 f16 f18 s) m' kp was pool tape pln pap rwd rw ∧ Same (mBlk x) h h') := by
  intro N
  induction N with
  | zero => intro m m' a h _ q; exact absurd q id
  | succ N ih =>
    intro m m' a h hB hR
    obtain ⟨⟨hM, k0, k1, k2, k3, k4, k5, k7⟩, ha, hR⟩ := hR
    have hB0 := hB
    rw [show 280 + (N + 1) = 280 + N + 1 by omega]
    refine RUNM.of (by decide +kernel) (Nat.le_of_ble_eq_true rfl) ?_
    rcases hR with ⟨hh, rfl⟩ | ⟨hh, k, m2, hL, rfl⟩
    · dsimp only [mFs] at hB
      refine r_aload_n (pc := 0) dX11_shuts_0 rfl (by first | rfl | exact isRefV_rf _) ?_
      refine r_iload_n (pc := 1) dX11_shuts_1 rfl ?_
      refine r_callV1 (pc := 2) dX11_shuts_2 qX11_isOpen kX11_146 vX11_isOpen (by exact isM.gx (by assumption)) rfl rfl (Nat.le_of_ble_eq_true rfl) (by have y := m_isOpen (G := G) (l := l) (278 + N) hB0 hM k0 (a := a) ha; exact y.deeper (by omega)) (fun v_2 h_2 q_2 => ?_)
      obtain ⟨rfl, rfl⟩ := q_2
      refine rj_if_ne (pc := 5) (tgt := 9) dX11_shuts_5 (by decide) (by first | assumption | exact b01_r | exact bz_r | omega | (constructor <;> omega) | exact hM _ | exact hPo _ | exact hTa _ | exact hRo _) (fun c_5 => ?_) (fun c_5 => ?_)
      · try simp only [b01_0, bz_0, Classical.not_not] at c_5
        exact absurd c_5 hh
      · try simp only [b01_0, bz_0, Classical.not_not] at c_5
        refine r_return (pc := 8) dX11_shuts_8 rfl ?_
        exact ⟨rfl, hB0, Same.refl⟩
    · dsimp only [mFs] at hB
      obtain ⟨hok1, h11⟩ := shLoopR_ok k _ m2 hL
      obtain ⟨hM1, j0, j1, -⟩ := id hok1
      refine r_aload_n (pc := 0) dX11_shuts_0 rfl (by first | rfl | exact isRefV_rf _) ?_
      refine r_iload_n (pc := 1) dX11_shuts_1 rfl ?_
      refine r_callV1 (pc := 2) dX11_shuts_2 qX11_isOpen kX11_146 vX11_isOpen (by exact isM.gx (by assumption)) rfl rfl (Nat.le_of_ble_eq_true rfl) (by have y := m_isOpen (G := G) (l := l) (278 + N) hB0 hM k0 (a := a) ha; exact y.deeper (by omega)) (fun v_2 h_2 q_2 => ?_)
      obtain ⟨rfl, rfl⟩ := q_2
      refine rj_if_ne (pc := 5) (tgt := 9) dX11_shuts_5 (by decide) (by first | assumption | exact b01_r | exact bz_r | omega | (constructor <;> omega) | exact hM _ | exact hPo _ | exact hTa _ | exact hRo _) (fun c_5 => ?_) (fun c_5 => ?_)
      · try simp only [b01_0, bz_0, Classical.not_not] at c_5
        refine r_aload_n (pc := 9) dX11_shuts_9 rfl (by first | rfl | exact isRefV_rf _) ?_
        refine rm_getf (pc := 10) dX11_shuts_10 fX11_11 (by assumption) rfl ?_
        refine r_iload_n (pc := 13) dX11_shuts_13 rfl ?_
        refine rj_iconst (pc := 14) dX11_shuts_14 ?_
        refine r_callS2 (pc := 15) dX11_shuts_15 qX11_ofScope kX11_42 sX11_ofScope (Nat.le_of_ble_eq_true rfl) (m_ofScope _) (fun v_15 h_15 q_15 => ?_)
        obtain ⟨rfl, rfl⟩ := q_15
        refine rj_iconst (pc := 18) dX11_shuts_18 ?_
        first | refine rm_iast0 (pc := 19) (j := (18 + 4 * a).toNat) dX11_shuts_19 (by assumption) (by first | assumption | exact b01_r | exact bz_r | omega | (constructor <;> omega) | exact hM _ | exact hPo _ | exact hTa _ | exact hRo _) (by first | assumption | exact b01_r | exact bz_r | omega | (constructor <;> omega) | exact hM _ | exact hPo _ | exact hTa _ | exact hRo _) (by first | assumption | exact b01_r | exact bz_r | omega | (constructor <;> omega) | exact hM _ | exact hPo _ | exact hTa _ | exact hRo _) (by omega) (fun h_19 hB_19 hS_19 => ?_)
        refine r_aload_n (pc := 20) dX11_shuts_20 rfl (by first | rfl | exact isRefV_rf _) ?_
        refine r_iload_n (pc := 21) dX11_shuts_21 rfl ?_
        refine r_callV1 (pc := 22) dX11_shuts_22 qX11_lastOf kX11_149 vX11_lastOf (by exact isM.gx (by assumption)) rfl rfl (Nat.le_of_ble_eq_true rfl) (by have y := m_lastOf (G := G) (l := l) (277 + N) hB_19 hM1 (N := (updI m (18 + 4 * a).toNat 1 1).toNat) (C := (updI m (18 + 4 * a).toNat 1 0).toNat) (by omega) (by omega) (by omega) (by omega) (by omega) (a := a) ha; exact y.deeper (by omega)) (fun v_22 h_22 q_22 => ?_)
        obtain ⟨rfl, rfl⟩ := q_22
        refine r_istore_n (pc := 25) dX11_shuts_25 (Nat.le_of_ble_eq_true rfl) ?_
        dsimp only [lsSt, List.set, mLs, mEnt]
        exact (L_shuts (D := 280 + N) (by omega) (fun m1 m2 t h z1 z2 => (m_closes hPo hs 91 m1 m2 t h z1 z2).deeper (by omega)) ih ⟨by omega, by omega⟩ k _ _ hB_19 hL).mono (fun v h' q => ⟨q.1, q.2.1, hS_19.trans q.2.2⟩)
      · try simp only [b01_0, bz_0, Classical.not_not] at c_5
        exact absurd hh c_5
def overR (sh : (Nat → Int) → Int → (Nat → Int) → Prop) (t : Nat) : Nat → (Nat → Int) → (Nat → Int) → Prop
  | 0, m, m' => m' = m
  | n + 1, m, m' => (∀ q, InR (m q)) ∧ ∃ m1, sh m (m (1620 + 72 * t + n)) m1 ∧ overR sh t n m1 m'
def isOverR (sh : (Nat → Int) → Int → (Nat → Int) → Prop) (t : Nat) (st : Int) (m m' : Nat → Int) : Prop := t ≤ 9 ∧ ∃ n : Nat, n ≤ 60 ∧ m (1619 + 72 * t) = n ∧ overR sh t n (updI m (1610 + 72 * t) st) m'
set_option maxHeartbeats 4000000 in
set_option maxRecDepth 100000 in
theorem L_isOver {G : mG} {l : Launch} {D : Nat} (hD : 280 ≤ D) {x s : Nat} {f4 f6 f8 f9 f10 f11 f12 f13 f14 f16 f18 : Int} {kp was pool tape pln pap rwd rw : Nat → Int} {sh : (Nat → Int) → Int → (Nat → Int) → Prop} (hsh : ∀ (m1 m2 : Nat → Int) (e : Int) (h : mH), isM h x (mFs x f4 f6 f8 f9 f10 f11 f12 f13 f14 f16 f18 s) m1 kp was pool tape pln pap rwd rw → sh m1 e m2 → RUNM G l D mX11_shuts [.ref x, .int (J e)] h (fun v h' => v = none ∧ isM h' x (mFs x f4 f6 f8 f9 f10 f11 f12 f13 f14 f16 f18 s) m2 kp was pool tape pln pap rwd rw ∧ Same (mBlk x) h h')) {t : Nat} (ht : t ≤ 9) {st : Int} {m' : Nat → Int} : ∀ (n : Nat) (m : Nat → Int) (h : mH), n ≤ 60 → isM h x (mFs x f4 f6 f8 f9 f10 f11 f12 f13 f14 f16 f18 s) m kp was pool tape pln pap rwd rw → overR sh t n m m' → RUN G l (D + 1) mX11_isOver 27 [some (.ref x), some (.int (J (t : Int))), some (.int (J st)), some (.int (J ((n : Int) - 1)))] [] h (fun v h' => v = none ∧ isM h' x (mFs x f4 f6 f8 f9 f10 f11 f12 f13 f14 f16 f18 s) m' kp was pool tape pln pap rwd rw ∧ Same (mBlk x) h h') := by
  intro n
  induction n with
  | zero =>
    intro m h hn hB hR
    obtain rfl := hR
    have hB0 := hB
    refine r_iload_n (pc := 27) dX11_isOver_27 rfl ?_
    refine rj_if_lt (pc := 28) (tgt := 53) dX11_isOver_28 (by decide) (by first | assumption | exact b01_r | exact bz_r | omega | (constructor <;> omega) | exact hM _ | exact hPo _ | exact hTa _ | exact hRo _) (fun c_28 => ?_) (fun c_28 => ?_)
    · refine r_return (pc := 53) dX11_isOver_53 rfl ?_
      exact ⟨rfl, hB0, Same.refl⟩
    · exfalso; omega
  | succ n ih =>
    intro m h hn hB hR
    obtain ⟨hM, m1, hs, hR⟩ := hR
    have hB0 := hB
    dsimp only [mFs] at hB
    refine r_iload_n (pc := 27) dX11_isOver_27 rfl ?_
    refine rj_if_lt (pc := 28) (tgt := 53) dX11_isOver_28 (by decide) (by first | assumption | exact b01_r | exact bz_r | omega | (constructor <;> omega) | exact hM _ | exact hPo _ | exact hTa _ | exact hRo _) (fun c_28 => ?_) (fun c_28 => ?_)
    · exfalso; omega
    · refine r_aload_n (pc := 31) dX11_isOver_31 rfl (by first | rfl | exact isRefV_rf _) ?_
      refine r_aload_n (pc := 32) dX11_isOver_32 rfl (by first | rfl | exact isRefV_rf _) ?_
      refine rm_getf (pc := 33) dX11_isOver_33 fX11_11 (by assumption) rfl ?_
      refine r_iload_n (pc := 36) dX11_isOver_36 rfl ?_
      refine rj_bipush (pc := 37) dX11_isOver_37 (by decide +kernel) ?_
      refine r_iload_n (pc := 39) dX11_isOver_39 rfl ?_
      refine r_callS3 (pc := 40) dX11_isOver_40 qX11_ofTask kX11_58 sX11_ofTask (Nat.le_of_ble_eq_true rfl) (m_ofTask _) (fun v_40 h_40 q_40 => ?_)
      obtain ⟨rfl, rfl⟩ := q_40
      refine rj_iald (pc := 43) (j := 1620 + 72 * t + n) dX11_isOver_43 (by first | exact isM.g0 (by assumption) | exact isM.g3 (by assumption) | exact isM.g4 (by assumption) | exact isM.g8 (by assumption) | exact isM.g7 (by assumption) | exact isM.g6 (by assumption) | exact isM.g5 (by assumption) | exact isM.g1 (by assumption) | exact isM.g2 (by assumption)) (by first | assumption | exact b01_r | exact bz_r | omega | (constructor <;> omega) | exact hM _ | exact hPo _ | exact hTa _ | exact hRo _) (by first | assumption | exact b01_r | exact bz_r | omega | (constructor <;> omega) | exact hM _ | exact hPo _ | exact hTa _ | exact hRo _) (by first | assumption | exact b01_r | exact bz_r | omega | (constructor <;> omega) | exact hM _ | exact hPo _ | exact hTa _ | exact hRo _) (by omega) ?_
      refine r_callV1 (pc := 44) dX11_isOver_44 qX11_shuts kX11_157 vX11_shuts (by exact isM.gx (by assumption)) rfl rfl (Nat.le_of_ble_eq_true rfl) (hsh m m1 _ _ hB0 hs) (fun v_44 h_44 q_44 => ?_)
      obtain ⟨rfl, hB_44, S_44⟩ := q_44
      refine rj_iinc (pc := 47) dX11_isOver_47 (Nat.le_of_ble_eq_true rfl) rfl ?_
      dsimp only [lsSt, List.set, mLs, mEnt]
      refine r_goto (pc := 50) (tgt := 27) dX11_isOver_50 (by decide) ?_
      rw [show ((n + 1 : Nat) : Int) - 1 + -1 = (n : Int) - 1 by omega]
      exact (ih m1 _ (by omega) hB_44 hR).mono (fun v h' q => ⟨q.1, q.2.1, S_44.trans q.2.2⟩)
set_option maxHeartbeats 4000000 in
set_option maxRecDepth 100000 in
theorem m_isOver {G : mG} {l : Launch} {D : Nat} (hD : 280 ≤ D) {x s : Nat} {f4 f6 f8 f9 f10 f11 f12 f13 f14 f16 f18 : Int} {kp was pool tape pln pap rwd rw : Nat → Int} {sh : (Nat → Int) → Int → (Nat → Int) → Prop} (hsh : ∀ (m1 m2 : Nat → Int) (e : Int) (h : mH), isM h x (mFs x f4 f6 f8 f9 f10 f11 f12 f13 f14 f16 f18 s) m1 kp was pool tape pln pap rwd rw → sh m1 e m2 → RUNM G l D mX11_shuts [.ref x, .int (J e)] h (fun v h' => v = none ∧ isM h' x (mFs x f4 f6 f8 f9 f10 f11 f12 f13 f14 f16 f18 s) m2 kp was pool tape pln pap rwd rw ∧ Same (mBlk x) h h')) {m m' : Nat → Int} {t : Nat} {st : Int} {h : mH} (hB : isM h x (mFs x f4 f6 f8 f9 f10 f11 f12 f13 f14 f16 f18 s) m kp was pool tape pln pap rwd rw) (hR : isOverR sh t st m m') : RUNM G l (D + 1) mX11_isOver [.ref x, .int (J (t : Int)), .int (J st)] h (fun v h' => v = none ∧ isM h' x (mFs x f4 f6 f8 f9 f10 f11 f12 f13 f14 f16 f18 s) m' kp was pool tape pln pap rwd rw ∧ Same (mBlk x) h h') := by
  obtain ⟨ht, n, hn, hc, hR⟩ := hR
  have hB0 := hB
  have e1 : updI m (1610 + 72 * t) st (1619 + 72 * t) = n := (updI_n (by omega)).trans hc
  dsimp only [mFs] at hB
  refine RUNM.of (by decide +kernel) (Nat.le_of_ble_eq_true rfl) ?_
  refine r_aload_n (pc := 0) dX11_isOver_0 rfl (by first | rfl | exact isRefV_rf _) ?_
  refine rm_getf (pc := 1) dX11_isOver_1 fX11_11 (by assumption) rfl ?_
  refine r_iload_n (pc := 4) dX11_isOver_4 rfl ?_
  refine rj_iconst (pc := 5) dX11_isOver_5 ?_
  refine rj_iconst (pc := 6) dX11_isOver_6 ?_
  refine r_callS3 (pc := 7) dX11_isOver_7 qX11_ofTask kX11_58 sX11_ofTask (Nat.le_of_ble_eq_true rfl) (m_ofTask _) (fun v_7 h_7 q_7 => ?_)
  obtain ⟨rfl, rfl⟩ := q_7
  refine r_iload_n (pc := 10) dX11_isOver_10 rfl ?_
  first | refine rm_iast0 (pc := 11) (j := 1610 + 72 * t) dX11_isOver_11 (by assumption) (by first | assumption | exact b01_r | exact bz_r | omega | (constructor <;> omega) | exact hM _ | exact hPo _ | exact hTa _ | exact hRo _) (by first | assumption | exact b01_r | exact bz_r | omega | (constructor <;> omega) | exact hM _ | exact hPo _ | exact hTa _ | exact hRo _) (by first | assumption | exact b01_r | exact bz_r | omega | (constructor <;> omega) | exact hM _ | exact hPo _ | exact hTa _ | exact hRo _) (by omega) (fun h_11 hB_11 hS_11 => ?_)
  refine r_aload_n (pc := 12) dX11_isOver_12 rfl (by first | rfl | exact isRefV_rf _) ?_
  refine rm_getf (pc := 13) dX11_isOver_13 fX11_11 (by assumption) rfl ?_
  refine r_iload_n (pc := 16) dX11_isOver_16 rfl ?_
  refine rj_bipush (pc := 17) dX11_isOver_17 (by decide +kernel) ?_
  refine rj_iconst (pc := 19) dX11_isOver_19 ?_
  refine r_callS3 (pc := 20) dX11_isOver_20 qX11_ofTask kX11_58 sX11_ofTask (Nat.le_of_ble_eq_true rfl) (m_ofTask _) (fun v_20 h_20 q_20 => ?_)
  obtain ⟨rfl, rfl⟩ := q_20
  refine rj_iald (pc := 23) (j := 1619 + 72 * t) dX11_isOver_23 (by first | exact isM.g0 (by assumption) | exact isM.g3 (by assumption) | exact isM.g4 (by assumption) | exact isM.g8 (by assumption) | exact isM.g7 (by assumption) | exact isM.g6 (by assumption) | exact isM.g5 (by assumption) | exact isM.g1 (by assumption) | exact isM.g2 (by assumption)) (by first | assumption | exact b01_r | exact bz_r | omega | (constructor <;> omega) | exact hM _ | exact hPo _ | exact hTa _ | exact hRo _) (by first | assumption | exact b01_r | exact bz_r | omega | (constructor <;> omega) | exact hM _ | exact hPo _ | exact hTa _ | exact hRo _) (by first | assumption | exact b01_r | exact bz_r | omega | (constructor <;> omega) | exact hM _ | exact hPo _ | exact hTa _ | exact hRo _) (by omega) ?_
  rw [e1]
  refine rj_iconst (pc := 24) dX11_isOver_24 ?_
  refine rj_isub (pc := 25) dX11_isOver_25 ?_
  refine r_istore_n (pc := 26) dX11_isOver_26 (Nat.le_of_ble_eq_true rfl) ?_
  dsimp only [lsSt, List.set, mLs, mEnt]
  exact (L_isOver hD hsh ht n _ _ hn hB_11 hR).mono (fun v h' q => ⟨q.1, q.2.1, hS_11.trans q.2.2⟩)

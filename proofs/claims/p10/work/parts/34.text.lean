/-! ===== contracts of the reference: texts of steps from their begin; the pool; scopes above ===== -/
def stepsW (sr : Nat → Int) (len : Int) (w : Int) (it : Bool) : PS → Bool × PS := stepsR sr len (stepN sr len 8 w it false)
theorem stepsW_p {sr : Nat → Int} {len w : Int} {it : Bool} : psUp len (stepsW sr len w it) := stepsR_p (stepN_p _ _ _ _)
set_option maxHeartbeats 4000000 in
set_option maxRecDepth 100000 in
theorem m_stepsW {G : mG} {l : Launch} {h : mH} {x s : Nat} {f4 f6 f9 f14 f16 f18 : Int} {q : PS} {m kp was pool tape pln pap rwd rw sr : Nat → Int} (hB : isM h x (mFs x f4 f6 q.1 f9 q.2.1 q.2.2.1 q.2.2.2.1 q.2.2.2.2 f14 f16 f18 s) m kp was pool tape pln pap rwd rw) (hT : txOk s sr pool tape f9) (hq : psOk f9 q) {w : Int} {it : Bool} (h0 : 0 ≤ w) (h3 : w ≤ 3) : RUNM G l 31 mX11_isStepsRead [.ref x, .int (J w), .int (J (bz it))] h (fun v h' => v = some (.int (J (bz (stepsW sr f9 w it q).1))) ∧ isM h' x (mFs x f4 f6 ((stepsW sr f9 w it q).2).1 f9 ((stepsW sr f9 w it q).2).2.1 ((stepsW sr f9 w it q).2).2.2.1 ((stepsW sr f9 w it q).2).2.2.2.1 ((stepsW sr f9 w it q).2).2.2.2.2 f14 f16 f18 s) m kp was pool tape pln pap rwd rw ∧ Same (mBlk x) h h') :=
  m_isStepsRead (D := 30) hB hT hq (stepN_p _ _ _ _) (fun q h hB hq => by
    have y := m_stepN (G := G) (l := l) hT 8 w it false h0 h3 (by simp only [Bool.false_eq_true, if_false]; omega) q h hB hq
    rw [show bz false = 0 from bz_f (by decide)] at y
    exact y)
def stepsInV (pool : Nat → Int) (fr to : Int) (f11 f12 : Int) : Int := if fr = to then 0 else (stepsW pool to 0 true (fr, -1, f11, f12, 90)).2.2.2.2.1
set_option maxHeartbeats 4000000 in
set_option maxRecDepth 100000 in
theorem m_stepsIn {G : mG} {l : Launch} (d : Nat) {h : mH} {x s : Nat} {f4 f6 f8 f9 f10 f11 f12 f13 f14 f16 f18 : Int} {m kp was pool tape pln pap rwd rw : Nat → Int}(hB : isM h x (mFs x f4 f6 f8 f9 f10 f11 f12 f13 f14 f16 f18 s) m kp was pool tape pln pap rwd rw) {a b : Int} (hT : txOk 3 pool pool tape b) (h0 : 0 ≤ a) (h1 : a ≤ b) (h2 : 0 ≤ f11) (h3 : f11 ≤ 99999) : RUNM G l (d + 32) mX11_stepsIn [.ref x, .int (J a), .int (J b)] h (fun v h' => v = some (.int (J (stepsInV pool a b f11 f12))) ∧ ((a = b ∧ h' = h) ∨ (¬ a = b ∧ isM h' x (mFs x f4 f6 (stepsW pool b 0 true (a, -1, f11, f12, 90)).2.1 b (stepsW pool b 0 true (a, -1, f11, f12, 90)).2.2.1 (stepsW pool b 0 true (a, -1, f11, f12, 90)).2.2.2.1 (stepsW pool b 0 true (a, -1, f11, f12, 90)).2.2.2.2.1 (stepsW pool b 0 true (a, -1, f11, f12, 90)).2.2.2.2.2 f14 f16 f18 3) m kp was pool tape pln pap rwd rw ∧ Same (mBlk x) h h'))) := by
  have hB0 := hB
  dsimp only [mFs] at hB
  refine RUNM.of (by decide +kernel) (Nat.le_of_ble_eq_true rfl) ?_
  obtain ⟨ht1, ht2, ht3⟩ := id hT
  have h97 : b ≤ 12342 := by rcases ht1 with h | h <;> omega
  refine r_iload_n (pc := 0) dX11_stepsIn_0 rfl ?_
  refine r_iload_n (pc := 1) dX11_stepsIn_1 rfl ?_
  refine rj_icmp_ne (pc := 2) (tgt := 7) dX11_stepsIn_2 (by decide) (by first | assumption | exact b01_r | exact bz_r | omega | (constructor <;> omega) | exact hM _ | exact hPo _ | exact hTa _ | exact hRo _) (by first | assumption | exact b01_r | exact bz_r | omega | (constructor <;> omega) | exact hM _ | exact hPo _ | exact hTa _ | exact hRo _) (fun c_2 => ?_) (fun c_2 => ?_)
  · refine r_aload_n (pc := 7) dX11_stepsIn_7 rfl (by first | rfl | exact isRefV_rf _) ?_
    refine r_aload_n (pc := 8) dX11_stepsIn_8 rfl (by first | rfl | exact isRefV_rf _) ?_
    refine rm_getf (pc := 9) dX11_stepsIn_9 fX11_21 (by assumption) rfl ?_
    refine r_iload_n (pc := 12) dX11_stepsIn_12 rfl ?_
    refine r_iload_n (pc := 13) dX11_stepsIn_13 rfl ?_
    refine r_callV3 (pc := 14) dX11_stepsIn_14 qX11_begins kX11_115 vX11_begins (by exact isM.gx (by assumption)) rfl rfl (Nat.le_of_ble_eq_true rfl) (m_begins (d + 31) hB0) (fun v_14 h_14 q_14 => ?_)
    obtain ⟨rfl, hB_14, hS_14⟩ := q_14
    dsimp only [mFs] at hB_14
    refine r_aload_n (pc := 17) dX11_stepsIn_17 rfl (by first | rfl | exact isRefV_rf _) ?_
    refine rj_bipush (pc := 18) dX11_stepsIn_18 (by decide +kernel) ?_
    refine rm_putf (pc := 20) dX11_stepsIn_20 fX11_99 (by assumption) rfl rfl (Nat.le_of_ble_eq_true rfl) (fun h_20 hB_20 hS_20 => ?_)
    dsimp only [List.set, mFs] at hB_20
    refine r_aload_n (pc := 23) dX11_stepsIn_23 rfl (by first | rfl | exact isRefV_rf _) ?_
    refine rj_iconst (pc := 24) dX11_stepsIn_24 ?_
    refine rj_iconst (pc := 25) dX11_stepsIn_25 ?_
    refine r_callV2 (pc := 26) dX11_stepsIn_26 qX11_isStepsRead kX11_92 vX11_isStepsRead (by exact isM.gx (by assumption)) rfl rfl (Nat.le_of_ble_eq_true rfl) (by have y := m_stepsW (G := G) (l := l) (q := (a, -1, f11, f12, 90)) (f9 := b) (s := 3) (sr := pool) (w := 0) (it := true) hB_20 hT ⟨h0, h1, Int.le_refl _, (by show (-1 : Int) ≤ b; omega), h2, h3, (by show (0 : Int) ≤ 90; decide), (by show (90 : Int) ≤ a + 90; omega)⟩ (by decide) (by decide); rw [show bz true = 1 from bz_t rfl] at y; exact y.deeper (by omega)) (fun v_26 h_26 q_26 => ?_)
    obtain ⟨rfl, hB_26, hS_26⟩ := q_26
    refine r_pop (pc := 29) dX11_stepsIn_29 (by first | rfl | (cases ‹Option Nat› <;> rfl)) ?_
    refine r_aload_n (pc := 30) dX11_stepsIn_30 rfl (by first | rfl | exact isRefV_rf _) ?_
    refine rm_getf (pc := 31) dX11_stepsIn_31 fX11_112 (by assumption) rfl ?_
    refine r_ireturn (pc := 34) .int dX11_stepsIn_34 rfl (by first | rfl | assumption) ?_
    exact ⟨by unfold stepsInV; rw [if_neg (by omega)], Or.inr ⟨by omega, hB_26, (hS_14.trans hS_20).trans hS_26⟩⟩
  · refine rj_iconst (pc := 5) dX11_stepsIn_5 ?_
    refine r_ireturn (pc := 6) .int dX11_stepsIn_6 rfl (by first | rfl | assumption) ?_
    exact ⟨by unfold stepsInV; rw [if_pos (by omega)], Or.inl ⟨by omega, rfl⟩⟩
def upK (m : Nat → Int) (o : Int) : Nat → Int → Int
  | 0, k => k
  | n + 1, k => if 0 ≤ k ∧ ¬ k = o then upK m o n (m (19 + 4 * k).toNat) else k
def upN (m : Nat → Int) : Nat → Int → Int
  | 0, _ => 0
  | n + 1, k => if 0 ≤ k then 1 + upN m n (m (19 + 4 * k).toNat) else 0
/-- every scope's parent is an elder one, or none (below 0) -/
def parOk (m : Nat → Int) (C : Nat) : Prop := ∀ k : Int, 0 ≤ k → k < C → -5 ≤ m (19 + 4 * k).toNat ∧ m (19 + 4 * k).toNat < k
def belowB (m : Nat → Int) (C : Nat) (o a : Int) : Bool := decide (upK m o C a = o)
set_option maxHeartbeats 4000000 in
set_option maxRecDepth 100000 in
theorem L_isBelow {G : mG} {l : Launch} (d : Nat) {h : mH} {x s : Nat} {f4 f6 f8 f9 f10 f11 f12 f13 f14 f16 f18 : Int} {m kp was pool tape pln pap rwd rw : Nat → Int}(hB : isM h x (mFs x f4 f6 f8 f9 f10 f11 f12 f13 f14 f16 f18 s) m kp was pool tape pln pap rwd rw) {C : Nat} (hC2 : C ≤ 60) (hP : parOk m C) {a o : Int} (ho : InR o) : ∀ (n : Nat) (k : Int), k < n → -5 ≤ k → k < C → RUN G l (d + 1) mX11_isBelow 2 [some (.ref x), some (.int (J a)), some (.int (J o)), some (.int (J k))] [] h (fun v h' => v = some (.int (J (b01 (upK m o n k = o)))) ∧ h' = h) := by
  dsimp only [mFs] at hB
  intro n
  induction n with
  | zero =>
    intro k h1 h2 h3
    refine r_iload_n (pc := 2) dX11_isBelow_2 rfl ?_
    refine rj_if_lt (pc := 3) (tgt := 25) dX11_isBelow_3 (by decide) (by first | assumption | exact b01_r | exact bz_r | omega | (constructor <;> omega) | exact hM _ | exact hPo _ | exact hTa _ | exact hRo _) (fun c_3 => ?_) (fun c_3 => ?_)
    · refine r_iload_n (pc := 25) dX11_isBelow_25 rfl ?_
      refine r_iload_n (pc := 26) dX11_isBelow_26 rfl ?_
      refine rj_icmp_ne (pc := 27) (tgt := 34) dX11_isBelow_27 (by decide) (by first | assumption | exact b01_r | exact bz_r | omega | (constructor <;> omega) | exact hM _ | exact hPo _ | exact hTa _ | exact hRo _) (by first | assumption | exact b01_r | exact bz_r | omega | (constructor <;> omega) | exact hM _ | exact hPo _ | exact hTa _ | exact hRo _) (fun c_27 => ?_) (fun c_27 => ?_)
      · refine rj_iconst (pc := 34) dX11_isBelow_34 ?_
        refine r_ireturn (pc := 35) .boolean dX11_isBelow_35 rfl (by first | exact nar_J0 | exact nar_J1 | exact nar_b01 | exact nar_bz) ?_
        have e1 : upK m o 0 k = k := by rfl
        rw [e1]
        first
        | exact ⟨vt c_27, rfl⟩
        | exact ⟨vf c_27, rfl⟩
      · refine rj_iconst (pc := 30) dX11_isBelow_30 ?_
        refine r_goto (pc := 31) (tgt := 35) dX11_isBelow_31 (by decide) ?_
        refine r_ireturn (pc := 35) .boolean dX11_isBelow_35 rfl (by first | exact nar_J0 | exact nar_J1 | exact nar_b01 | exact nar_bz) ?_
        have e1 : upK m o 0 k = k := by rfl
        rw [e1]
        first
        | exact ⟨vt c_27, rfl⟩
        | exact ⟨vf c_27, rfl⟩
    · exfalso; omega
  | succ n ih =>
    intro k h1 h2 h3
    refine r_iload_n (pc := 2) dX11_isBelow_2 rfl ?_
    refine rj_if_lt (pc := 3) (tgt := 25) dX11_isBelow_3 (by decide) (by first | assumption | exact b01_r | exact bz_r | omega | (constructor <;> omega) | exact hM _ | exact hPo _ | exact hTa _ | exact hRo _) (fun c_3 => ?_) (fun c_3 => ?_)
    · refine r_iload_n (pc := 25) dX11_isBelow_25 rfl ?_
      refine r_iload_n (pc := 26) dX11_isBelow_26 rfl ?_
      refine rj_icmp_ne (pc := 27) (tgt := 34) dX11_isBelow_27 (by decide) (by first | assumption | exact b01_r | exact bz_r | omega | (constructor <;> omega) | exact hM _ | exact hPo _ | exact hTa _ | exact hRo _) (by first | assumption | exact b01_r | exact bz_r | omega | (constructor <;> omega) | exact hM _ | exact hPo _ | exact hTa _ | exact hRo _) (fun c_27 => ?_) (fun c_27 => ?_)
      · refine rj_iconst (pc := 34) dX11_isBelow_34 ?_
        refine r_ireturn (pc := 35) .boolean dX11_isBelow_35 rfl (by first | exact nar_J0 | exact nar_J1 | exact nar_b01 | exact nar_bz) ?_
        have e1 : upK m o (n + 1) k = k := by rw [upK, if_neg (by omega)]
        rw [e1]
        first
        | exact ⟨vt c_27, rfl⟩
        | exact ⟨vf c_27, rfl⟩
      · refine rj_iconst (pc := 30) dX11_isBelow_30 ?_
        refine r_goto (pc := 31) (tgt := 35) dX11_isBelow_31 (by decide) ?_
        refine r_ireturn (pc := 35) .boolean dX11_isBelow_35 rfl (by first | exact nar_J0 | exact nar_J1 | exact nar_b01 | exact nar_bz) ?_
        have e1 : upK m o (n + 1) k = k := by rw [upK, if_neg (by omega)]
        rw [e1]
        first
        | exact ⟨vt c_27, rfl⟩
        | exact ⟨vf c_27, rfl⟩
    · refine r_iload_n (pc := 6) dX11_isBelow_6 rfl ?_
      refine r_iload_n (pc := 7) dX11_isBelow_7 rfl ?_
      refine rj_icmp_eq (pc := 8) (tgt := 25) dX11_isBelow_8 (by decide) (by first | assumption | exact b01_r | exact bz_r | omega | (constructor <;> omega) | exact hM _ | exact hPo _ | exact hTa _ | exact hRo _) (by first | assumption | exact b01_r | exact bz_r | omega | (constructor <;> omega) | exact hM _ | exact hPo _ | exact hTa _ | exact hRo _) (fun c_8 => ?_) (fun c_8 => ?_)
      · refine r_iload_n (pc := 25) dX11_isBelow_25 rfl ?_
        refine r_iload_n (pc := 26) dX11_isBelow_26 rfl ?_
        refine rj_icmp_ne (pc := 27) (tgt := 34) dX11_isBelow_27 (by decide) (by first | assumption | exact b01_r | exact bz_r | omega | (constructor <;> omega) | exact hM _ | exact hPo _ | exact hTa _ | exact hRo _) (by first | assumption | exact b01_r | exact bz_r | omega | (constructor <;> omega) | exact hM _ | exact hPo _ | exact hTa _ | exact hRo _) (fun c_27 => ?_) (fun c_27 => ?_)
        · refine rj_iconst (pc := 34) dX11_isBelow_34 ?_
          refine r_ireturn (pc := 35) .boolean dX11_isBelow_35 rfl (by first | exact nar_J0 | exact nar_J1 | exact nar_b01 | exact nar_bz) ?_
          have e1 : upK m o (n + 1) k = k := by rw [upK, if_neg (by omega)]
          rw [e1]
          first
          | exact ⟨vt c_27, rfl⟩
          | exact ⟨vf c_27, rfl⟩
        · refine rj_iconst (pc := 30) dX11_isBelow_30 ?_
          refine r_goto (pc := 31) (tgt := 35) dX11_isBelow_31 (by decide) ?_
          refine r_ireturn (pc := 35) .boolean dX11_isBelow_35 rfl (by first | exact nar_J0 | exact nar_J1 | exact nar_b01 | exact nar_bz) ?_
          have e1 : upK m o (n + 1) k = k := by rw [upK, if_neg (by omega)]
          rw [e1]
          first
          | exact ⟨vt c_27, rfl⟩
          | exact ⟨vf c_27, rfl⟩
      · refine r_aload_n (pc := 11) dX11_isBelow_11 rfl (by first | rfl | exact isRefV_rf _) ?_
        refine rm_getf (pc := 12) dX11_isBelow_12 fX11_11 (by assumption) rfl ?_
        refine r_iload_n (pc := 15) dX11_isBelow_15 rfl ?_
        refine rj_iconst (pc := 16) dX11_isBelow_16 ?_
        refine r_callS2 (pc := 17) dX11_isBelow_17 qX11_ofScope kX11_42 sX11_ofScope (Nat.le_of_ble_eq_true rfl) (m_ofScope d) (fun v_17 h_17 q_17 => ?_)
        obtain ⟨rfl, rfl⟩ := q_17
        refine rj_iald (pc := 20) (j := (19 + 4 * k).toNat) dX11_isBelow_20 (by first | exact isM.g0 (by assumption) | exact isM.g3 (by assumption) | exact isM.g4 (by assumption) | exact isM.g8 (by assumption) | exact isM.g7 (by assumption) | exact isM.g6 (by assumption) | exact isM.g5 (by assumption) | exact isM.g1 (by assumption) | exact isM.g2 (by assumption)) (by first | assumption | exact b01_r | exact bz_r | omega | (constructor <;> omega) | exact hM _ | exact hPo _ | exact hTa _ | exact hRo _) (by first | assumption | exact b01_r | exact bz_r | omega | (constructor <;> omega) | exact hM _ | exact hPo _ | exact hTa _ | exact hRo _) (by first | assumption | exact b01_r | exact bz_r | omega | (constructor <;> omega) | exact hM _ | exact hPo _ | exact hTa _ | exact hRo _) (by omega) ?_
        refine r_istore_n (pc := 21) dX11_isBelow_21 (Nat.le_of_ble_eq_true rfl) ?_
        dsimp only [lsSt, List.set, mLs, mEnt]
        refine r_goto (pc := 22) (tgt := 2) dX11_isBelow_22 (by decide) ?_
        obtain ⟨p1, p2⟩ := hP k (by omega) h3
        have z := ih _ (by omega) p1 (by omega)
        rw [show upK m o (n + 1) k = upK m o n (m (19 + 4 * k).toNat) by rw [upK, if_pos ⟨by omega, c_8⟩]]
        exact z
set_option maxHeartbeats 4000000 in
set_option maxRecDepth 100000 in
theorem m_isBelow {G : mG} {l : Launch} (d : Nat) {h : mH} {x s : Nat} {f4 f6 f8 f9 f10 f11 f12 f13 f14 f16 f18 : Int} {m kp was pool tape pln pap rwd rw : Nat → Int}(hB : isM h x (mFs x f4 f6 f8 f9 f10 f11 f12 f13 f14 f16 f18 s) m kp was pool tape pln pap rwd rw) {C : Nat} (hC2 : C ≤ 60) (hP : parOk m C) {a o : Int} (ho : InR o) (ha : -5 ≤ a) (ha2 : a < C) : RUNM G l (d + 1) mX11_isBelow [.ref x, .int (J a), .int (J o)] h (fun v h' => v = some (.int (J (bz (belowB m C o a)))) ∧ h' = h) := by
  refine RUNM.of (by decide +kernel) (Nat.le_of_ble_eq_true rfl) ?_
  refine r_iload_n (pc := 0) dX11_isBelow_0 rfl ?_
  refine r_istore_n (pc := 1) dX11_isBelow_1 (Nat.le_of_ble_eq_true rfl) ?_
  dsimp only [lsSt, List.set, mLs, mEnt]
  have z := L_isBelow (G := G) (l := l) d (a := a) hB hC2 hP ho C a ha2 ha ha2
  unfold belowB
  rw [bz_d]
  exact z
set_option maxHeartbeats 4000000 in
set_option maxRecDepth 100000 in
theorem L_above {G : mG} {l : Launch} (d : Nat) {h : mH} {x s : Nat} {f4 f6 f8 f9 f10 f11 f12 f13 f14 f16 f18 : Int} {m kp was pool tape pln pap rwd rw : Nat → Int}(hB : isM h x (mFs x f4 f6 f8 f9 f10 f11 f12 f13 f14 f16 f18 s) m kp was pool tape pln pap rwd rw) {C : Nat} (hC2 : C ≤ 60) (hP : parOk m C) {a : Int} : ∀ (n : Nat) (k c : Int), k < n → -5 ≤ k → k < C → RUN G l (d + 1) mX11_above 13 [some (.ref x), some (.int (J a)), some (.int (J c)), some (.int (J k))] [] h (fun v h' => v = some (.int (J (c + upN m n k))) ∧ h' = h) := by
  dsimp only [mFs] at hB
  intro n
  induction n with
  | zero =>
    intro k c h1 h2 h3
    refine r_iload_n (pc := 13) dX11_above_13 rfl ?_
    refine rj_if_lt (pc := 14) (tgt := 34) dX11_above_14 (by decide) (by first | assumption | exact b01_r | exact bz_r | omega | (constructor <;> omega) | exact hM _ | exact hPo _ | exact hTa _ | exact hRo _) (fun c_14 => ?_) (fun c_14 => ?_)
    · refine r_iload_n (pc := 34) dX11_above_34 rfl ?_
      refine r_ireturn (pc := 35) .int dX11_above_35 rfl (by first | rfl | assumption) ?_
      exact ⟨by rw [upN, Int.add_zero], rfl⟩
    · exfalso; omega
  | succ n ih =>
    intro k c h1 h2 h3
    refine r_iload_n (pc := 13) dX11_above_13 rfl ?_
    refine rj_if_lt (pc := 14) (tgt := 34) dX11_above_14 (by decide) (by first | assumption | exact b01_r | exact bz_r | omega | (constructor <;> omega) | exact hM _ | exact hPo _ | exact hTa _ | exact hRo _) (fun c_14 => ?_) (fun c_14 => ?_)
    · refine r_iload_n (pc := 34) dX11_above_34 rfl ?_
      refine r_ireturn (pc := 35) .int dX11_above_35 rfl (by first | rfl | assumption) ?_
      exact ⟨by rw [upN, if_neg (by omega), Int.add_zero], rfl⟩
    · refine rj_iinc (pc := 17) dX11_above_17 (Nat.le_of_ble_eq_true rfl) rfl ?_
      dsimp only [lsSt, List.set, mLs, mEnt]
      refine r_aload_n (pc := 20) dX11_above_20 rfl (by first | rfl | exact isRefV_rf _) ?_
      refine rm_getf (pc := 21) dX11_above_21 fX11_11 (by assumption) rfl ?_
      refine r_iload_n (pc := 24) dX11_above_24 rfl ?_
      refine rj_iconst (pc := 25) dX11_above_25 ?_
      refine r_callS2 (pc := 26) dX11_above_26 qX11_ofScope kX11_42 sX11_ofScope (Nat.le_of_ble_eq_true rfl) (m_ofScope d) (fun v_26 h_26 q_26 => ?_)
      obtain ⟨rfl, rfl⟩ := q_26
      refine rj_iald (pc := 29) (j := (19 + 4 * k).toNat) dX11_above_29 (by first | exact isM.g0 (by assumption) | exact isM.g3 (by assumption) | exact isM.g4 (by assumption) | exact isM.g8 (by assumption) | exact isM.g7 (by assumption) | exact isM.g6 (by assumption) | exact isM.g5 (by assumption) | exact isM.g1 (by assumption) | exact isM.g2 (by assumption)) (by first | assumption | exact b01_r | exact bz_r | omega | (constructor <;> omega) | exact hM _ | exact hPo _ | exact hTa _ | exact hRo _) (by first | assumption | exact b01_r | exact bz_r | omega | (constructor <;> omega) | exact hM _ | exact hPo _ | exact hTa _ | exact hRo _) (by first | assumption | exact b01_r | exact bz_r | omega | (constructor <;> omega) | exact hM _ | exact hPo _ | exact hTa _ | exact hRo _) (by omega) ?_
      refine r_istore_n (pc := 30) dX11_above_30 (Nat.le_of_ble_eq_true rfl) ?_
      dsimp only [lsSt, List.set, mLs, mEnt]
      refine r_goto (pc := 31) (tgt := 13) dX11_above_31 (by decide) ?_
      obtain ⟨p1, p2⟩ := hP k (by omega) h3
      have z := ih _ (c + 1) (by omega) p1 (by omega)
      rw [show c + upN m (n + 1) k = c + 1 + upN m n (m (19 + 4 * k).toNat) by rw [upN, if_pos (by omega)]; omega]
      exact z
set_option maxHeartbeats 4000000 in
set_option maxRecDepth 100000 in
theorem m_above {G : mG} {l : Launch} (d : Nat) {h : mH} {x s : Nat} {f4 f6 f8 f9 f10 f11 f12 f13 f14 f16 f18 : Int} {m kp was pool tape pln pap rwd rw : Nat → Int}(hB : isM h x (mFs x f4 f6 f8 f9 f10 f11 f12 f13 f14 f16 f18 s) m kp was pool tape pln pap rwd rw) {C : Nat} (hC2 : C ≤ 60) (hP : parOk m C) {a : Int} (h0 : 0 ≤ a) (ha2 : a < C) : RUNM G l (d + 1) mX11_above [.ref x, .int (J a)] h (fun v h' => v = some (.int (J (upN m C (m (19 + 4 * a).toNat)))) ∧ h' = h) := by
  have hB0 := hB
  dsimp only [mFs] at hB
  refine RUNM.of (by decide +kernel) (Nat.le_of_ble_eq_true rfl) ?_
  obtain ⟨p1, p2⟩ := hP a h0 ha2
  refine rj_iconst (pc := 0) dX11_above_0 ?_
  refine r_istore_n (pc := 1) dX11_above_1 (Nat.le_of_ble_eq_true rfl) ?_
  dsimp only [lsSt, List.set, mLs, mEnt]
  refine r_aload_n (pc := 2) dX11_above_2 rfl (by first | rfl | exact isRefV_rf _) ?_
  refine rm_getf (pc := 3) dX11_above_3 fX11_11 (by assumption) rfl ?_
  refine r_iload_n (pc := 6) dX11_above_6 rfl ?_
  refine rj_iconst (pc := 7) dX11_above_7 ?_
  refine r_callS2 (pc := 8) dX11_above_8 qX11_ofScope kX11_42 sX11_ofScope (Nat.le_of_ble_eq_true rfl) (m_ofScope d) (fun v_8 h_8 q_8 => ?_)
  obtain ⟨rfl, rfl⟩ := q_8
  refine rj_iald (pc := 11) (j := (19 + 4 * a).toNat) dX11_above_11 (by first | exact isM.g0 (by assumption) | exact isM.g3 (by assumption) | exact isM.g4 (by assumption) | exact isM.g8 (by assumption) | exact isM.g7 (by assumption) | exact isM.g6 (by assumption) | exact isM.g5 (by assumption) | exact isM.g1 (by assumption) | exact isM.g2 (by assumption)) (by first | assumption | exact b01_r | exact bz_r | omega | (constructor <;> omega) | exact hM _ | exact hPo _ | exact hTa _ | exact hRo _) (by first | assumption | exact b01_r | exact bz_r | omega | (constructor <;> omega) | exact hM _ | exact hPo _ | exact hTa _ | exact hRo _) (by first | assumption | exact b01_r | exact bz_r | omega | (constructor <;> omega) | exact hM _ | exact hPo _ | exact hTa _ | exact hRo _) (by omega) ?_
  refine r_istore_n (pc := 12) dX11_above_12 (Nat.le_of_ble_eq_true rfl) ?_
  dsimp only [lsSt, List.set, mLs, mEnt]
  have z := L_above (G := G) (l := l) d (a := a) hB0 hC2 hP C (m (19 + 4 * a).toNat) 0 (by omega) p1 (by omega)
  rw [Int.zero_add] at z
  exact z
def heldInB (m : Nat → Int) (C : Nat) (o : Int) (t : Nat) : Bool := heldB m t && belowB m C o (m (259 + 14 * t))
def ownOk (m : Nat → Int) (N C : Nat) : Prop := ∀ t, t < N → 0 ≤ m (259 + 14 * t) ∧ m (259 + 14 * t) < C
set_option maxHeartbeats 4000000 in
set_option maxRecDepth 100000 in
theorem L_heldIn {G : mG} {l : Launch} (d : Nat) {h : mH} {x s : Nat} {f4 f6 f8 f9 f10 f11 f12 f13 f14 f16 f18 : Int} {m kp was pool tape pln pap rwd rw : Nat → Int}(hB : isM h x (mFs x f4 f6 f8 f9 f10 f11 f12 f13 f14 f16 f18 s) m kp was pool tape pln pap rwd rw) (hM : ∀ q, InR (m q)) {N : Nat} (hN : m 1 = (N : Int)) (hcap : N ≤ 90) {C : Nat} (hC2 : C ≤ 60) (hP : parOk m C) (hO : ownOk m N C) {a : Int} (ha : InR a) : ∀ k t : Nat, t + k = N → RUN G l (d + 3) mX11_heldIn 4 [some (.ref x), some (.int (J a)), some (.int (J (cnt (heldInB m C a) t))), some (.int (J ((t : Int))))] [] h (fun v h' => v = some (.int (J (cnt (heldInB m C a) N))) ∧ h' = h) := by
  dsimp only [mFs] at hB
  have rN := hM 1
  intro k
  induction k with
  | zero =>
    intro t ht
    refine r_iload_n (pc := 4) dX11_heldIn_4 rfl ?_
    refine r_aload_n (pc := 5) dX11_heldIn_5 rfl (by first | rfl | exact isRefV_rf _) ?_
    refine rm_getf (pc := 6) dX11_heldIn_6 fX11_11 (by assumption) rfl ?_
    refine rj_iconst (pc := 9) dX11_heldIn_9 ?_
    refine rj_iald (pc := 10) (j := 1) dX11_heldIn_10 (by first | exact isM.g0 (by assumption) | exact isM.g3 (by assumption) | exact isM.g4 (by assumption) | exact isM.g8 (by assumption) | exact isM.g7 (by assumption) | exact isM.g6 (by assumption) | exact isM.g5 (by assumption) | exact isM.g1 (by assumption) | exact isM.g2 (by assumption)) (by first | assumption | exact b01_r | exact bz_r | omega | (constructor <;> omega) | exact hM _ | exact hPo _ | exact hTa _ | exact hRo _) (by first | assumption | exact b01_r | exact bz_r | omega | (constructor <;> omega) | exact hM _ | exact hPo _ | exact hTa _ | exact hRo _) (by first | assumption | exact b01_r | exact bz_r | omega | (constructor <;> omega) | exact hM _ | exact hPo _ | exact hTa _ | exact hRo _) rfl ?_
    refine rj_icmp_ge (pc := 11) (tgt := 55) dX11_heldIn_11 (by decide) (by first | assumption | exact b01_r | exact bz_r | omega | (constructor <;> omega) | exact hM _ | exact hPo _ | exact hTa _ | exact hRo _) (by first | assumption | exact b01_r | exact bz_r | omega | (constructor <;> omega) | exact hM _ | exact hPo _ | exact hTa _ | exact hRo _) (fun c_11 => ?_) (fun c_11 => ?_)
    · refine r_iload_n (pc := 55) dX11_heldIn_55 rfl ?_
      refine r_ireturn (pc := 56) .int dX11_heldIn_56 rfl (by first | rfl | assumption) ?_
      have e : t = N := by omega
      subst e
      exact ⟨rfl, rfl⟩
    · refine r_iload_n (pc := 14) dX11_heldIn_14 rfl ?_
      refine r_aload_n (pc := 15) dX11_heldIn_15 rfl (by first | rfl | exact isRefV_rf _) ?_
      refine r_iload_n (pc := 16) dX11_heldIn_16 rfl ?_
      refine r_callV1 (pc := 17) dX11_heldIn_17 qX11_isHeld kX11_119 vX11_isHeld (by exact isM.gx (by assumption)) rfl rfl (Nat.le_of_ble_eq_true rfl) (m_isHeld (d + 1) hB hM (by omega) (by omega)) (fun v_17 h_17 q_17 => ?_)
      obtain ⟨rfl, rfl⟩ := q_17
      refine rj_if_eq (pc := 20) (tgt := 46) dX11_heldIn_20 (by decide) (by first | assumption | exact b01_r | exact bz_r | omega | (constructor <;> omega) | exact hM _ | exact hPo _ | exact hTa _ | exact hRo _) (fun c_20 => ?_) (fun c_20 => ?_)
      · try simp only [b01_0, bz_0, Classical.not_not] at c_20
        refine rj_iconst (pc := 46) dX11_heldIn_46 ?_
        refine rj_iadd (pc := 47) dX11_heldIn_47 ?_
        refine r_istore_n (pc := 48) dX11_heldIn_48 (Nat.le_of_ble_eq_true rfl) ?_
        dsimp only [lsSt, List.set, mLs, mEnt]
        refine rj_iinc (pc := 49) dX11_heldIn_49 (Nat.le_of_ble_eq_true rfl) rfl ?_
        dsimp only [lsSt, List.set, mLs, mEnt]
        refine r_goto (pc := 52) (tgt := 4) dX11_heldIn_52 (by decide) ?_
        exfalso; omega
      · try simp only [b01_0, bz_0, Classical.not_not] at c_20
        refine r_aload_n (pc := 23) dX11_heldIn_23 rfl (by first | rfl | exact isRefV_rf _) ?_
        refine r_aload_n (pc := 24) dX11_heldIn_24 rfl (by first | rfl | exact isRefV_rf _) ?_
        refine rm_getf (pc := 25) dX11_heldIn_25 fX11_11 (by assumption) rfl ?_
        refine r_iload_n (pc := 28) dX11_heldIn_28 rfl ?_
        refine rj_iconst (pc := 29) dX11_heldIn_29 ?_
        refine rj_iconst (pc := 30) dX11_heldIn_30 ?_
        refine r_callS3 (pc := 31) dX11_heldIn_31 qX11_ofThing kX11_54 sX11_ofThing (Nat.le_of_ble_eq_true rfl) (m_ofThing (d + 2)) (fun v_31 h_31 q_31 => ?_)
        obtain ⟨rfl, rfl⟩ := q_31
        refine rj_iald (pc := 34) (j := 259 + 14 * t) dX11_heldIn_34 (by first | exact isM.g0 (by assumption) | exact isM.g3 (by assumption) | exact isM.g4 (by assumption) | exact isM.g8 (by assumption) | exact isM.g7 (by assumption) | exact isM.g6 (by assumption) | exact isM.g5 (by assumption) | exact isM.g1 (by assumption) | exact isM.g2 (by assumption)) (by first | assumption | exact b01_r | exact bz_r | omega | (constructor <;> omega) | exact hM _ | exact hPo _ | exact hTa _ | exact hRo _) (by first | assumption | exact b01_r | exact bz_r | omega | (constructor <;> omega) | exact hM _ | exact hPo _ | exact hTa _ | exact hRo _) (by first | assumption | exact b01_r | exact bz_r | omega | (constructor <;> omega) | exact hM _ | exact hPo _ | exact hTa _ | exact hRo _) (by omega) ?_
        refine r_iload_n (pc := 35) dX11_heldIn_35 rfl ?_
        refine r_callV2 (pc := 36) dX11_heldIn_36 qX11_isBelow kX11_246 vX11_isBelow (by exact isM.gx (by assumption)) rfl rfl (Nat.le_of_ble_eq_true rfl) (m_isBelow (d + 1) hB hC2 hP ha (by have := hO t (by omega); omega) (by have := hO t (by omega); omega)) (fun v_36 h_36 q_36 => ?_)
        obtain ⟨rfl, rfl⟩ := q_36
        refine rj_if_eq (pc := 39) (tgt := 46) dX11_heldIn_39 (by decide) (by first | assumption | exact b01_r | exact bz_r | omega | (constructor <;> omega) | exact hM _ | exact hPo _ | exact hTa _ | exact hRo _) (fun c_39 => ?_) (fun c_39 => ?_)
        · try simp only [b01_0, bz_0, Classical.not_not] at c_39
          refine rj_iconst (pc := 46) dX11_heldIn_46 ?_
          refine rj_iadd (pc := 47) dX11_heldIn_47 ?_
          refine r_istore_n (pc := 48) dX11_heldIn_48 (Nat.le_of_ble_eq_true rfl) ?_
          dsimp only [lsSt, List.set, mLs, mEnt]
          refine rj_iinc (pc := 49) dX11_heldIn_49 (Nat.le_of_ble_eq_true rfl) rfl ?_
          dsimp only [lsSt, List.set, mLs, mEnt]
          refine r_goto (pc := 52) (tgt := 4) dX11_heldIn_52 (by decide) ?_
          exfalso; omega
        · try simp only [b01_0, bz_0, Classical.not_not] at c_39
          refine rj_iconst (pc := 42) dX11_heldIn_42 ?_
          refine r_goto (pc := 43) (tgt := 47) dX11_heldIn_43 (by decide) ?_
          refine rj_iadd (pc := 47) dX11_heldIn_47 ?_
          refine r_istore_n (pc := 48) dX11_heldIn_48 (Nat.le_of_ble_eq_true rfl) ?_
          dsimp only [lsSt, List.set, mLs, mEnt]
          refine rj_iinc (pc := 49) dX11_heldIn_49 (Nat.le_of_ble_eq_true rfl) rfl ?_
          dsimp only [lsSt, List.set, mLs, mEnt]
          refine r_goto (pc := 52) (tgt := 4) dX11_heldIn_52 (by decide) ?_
          exfalso; omega
  | succ k ih =>
    intro t ht
    refine r_iload_n (pc := 4) dX11_heldIn_4 rfl ?_
    refine r_aload_n (pc := 5) dX11_heldIn_5 rfl (by first | rfl | exact isRefV_rf _) ?_
    refine rm_getf (pc := 6) dX11_heldIn_6 fX11_11 (by assumption) rfl ?_
    refine rj_iconst (pc := 9) dX11_heldIn_9 ?_
    refine rj_iald (pc := 10) (j := 1) dX11_heldIn_10 (by first | exact isM.g0 (by assumption) | exact isM.g3 (by assumption) | exact isM.g4 (by assumption) | exact isM.g8 (by assumption) | exact isM.g7 (by assumption) | exact isM.g6 (by assumption) | exact isM.g5 (by assumption) | exact isM.g1 (by assumption) | exact isM.g2 (by assumption)) (by first | assumption | exact b01_r | exact bz_r | omega | (constructor <;> omega) | exact hM _ | exact hPo _ | exact hTa _ | exact hRo _) (by first | assumption | exact b01_r | exact bz_r | omega | (constructor <;> omega) | exact hM _ | exact hPo _ | exact hTa _ | exact hRo _) (by first | assumption | exact b01_r | exact bz_r | omega | (constructor <;> omega) | exact hM _ | exact hPo _ | exact hTa _ | exact hRo _) rfl ?_
    refine rj_icmp_ge (pc := 11) (tgt := 55) dX11_heldIn_11 (by decide) (by first | assumption | exact b01_r | exact bz_r | omega | (constructor <;> omega) | exact hM _ | exact hPo _ | exact hTa _ | exact hRo _) (by first | assumption | exact b01_r | exact bz_r | omega | (constructor <;> omega) | exact hM _ | exact hPo _ | exact hTa _ | exact hRo _) (fun c_11 => ?_) (fun c_11 => ?_)
    · refine r_iload_n (pc := 55) dX11_heldIn_55 rfl ?_
      refine r_ireturn (pc := 56) .int dX11_heldIn_56 rfl (by first | rfl | assumption) ?_
      exfalso; omega
    · refine r_iload_n (pc := 14) dX11_heldIn_14 rfl ?_
      refine r_aload_n (pc := 15) dX11_heldIn_15 rfl (by first | rfl | exact isRefV_rf _) ?_
      refine r_iload_n (pc := 16) dX11_heldIn_16 rfl ?_
      refine r_callV1 (pc := 17) dX11_heldIn_17 qX11_isHeld kX11_119 vX11_isHeld (by exact isM.gx (by assumption)) rfl rfl (Nat.le_of_ble_eq_true rfl) (m_isHeld (d + 1) hB hM (by omega) (by omega)) (fun v_17 h_17 q_17 => ?_)
      obtain ⟨rfl, rfl⟩ := q_17
      refine rj_if_eq (pc := 20) (tgt := 46) dX11_heldIn_20 (by decide) (by first | assumption | exact b01_r | exact bz_r | omega | (constructor <;> omega) | exact hM _ | exact hPo _ | exact hTa _ | exact hRo _) (fun c_20 => ?_) (fun c_20 => ?_)
      · try simp only [b01_0, bz_0, Classical.not_not] at c_20
        refine rj_iconst (pc := 46) dX11_heldIn_46 ?_
        refine rj_iadd (pc := 47) dX11_heldIn_47 ?_
        refine r_istore_n (pc := 48) dX11_heldIn_48 (Nat.le_of_ble_eq_true rfl) ?_
        dsimp only [lsSt, List.set, mLs, mEnt]
        refine rj_iinc (pc := 49) dX11_heldIn_49 (Nat.le_of_ble_eq_true rfl) rfl ?_
        dsimp only [lsSt, List.set, mLs, mEnt]
        refine r_goto (pc := 52) (tgt := 4) dX11_heldIn_52 (by decide) ?_
        have z := ih (t + 1) (by omega)
        rw [← cnt_f (by simp only [n_held] at *; unfold heldInB heldB; simp [c_20])] at z
        exact z
      · try simp only [b01_0, bz_0, Classical.not_not] at c_20
        refine r_aload_n (pc := 23) dX11_heldIn_23 rfl (by first | rfl | exact isRefV_rf _) ?_
        refine r_aload_n (pc := 24) dX11_heldIn_24 rfl (by first | rfl | exact isRefV_rf _) ?_
        refine rm_getf (pc := 25) dX11_heldIn_25 fX11_11 (by assumption) rfl ?_
        refine r_iload_n (pc := 28) dX11_heldIn_28 rfl ?_
        refine rj_iconst (pc := 29) dX11_heldIn_29 ?_
        refine rj_iconst (pc := 30) dX11_heldIn_30 ?_
        refine r_callS3 (pc := 31) dX11_heldIn_31 qX11_ofThing kX11_54 sX11_ofThing (Nat.le_of_ble_eq_true rfl) (m_ofThing (d + 2)) (fun v_31 h_31 q_31 => ?_)
        obtain ⟨rfl, rfl⟩ := q_31
        refine rj_iald (pc := 34) (j := 259 + 14 * t) dX11_heldIn_34 (by first | exact isM.g0 (by assumption) | exact isM.g3 (by assumption) | exact isM.g4 (by assumption) | exact isM.g8 (by assumption) | exact isM.g7 (by assumption) | exact isM.g6 (by assumption) | exact isM.g5 (by assumption) | exact isM.g1 (by assumption) | exact isM.g2 (by assumption)) (by first | assumption | exact b01_r | exact bz_r | omega | (constructor <;> omega) | exact hM _ | exact hPo _ | exact hTa _ | exact hRo _) (by first | assumption | exact b01_r | exact bz_r | omega | (constructor <;> omega) | exact hM _ | exact hPo _ | exact hTa _ | exact hRo _) (by first | assumption | exact b01_r | exact bz_r | omega | (constructor <;> omega) | exact hM _ | exact hPo _ | exact hTa _ | exact hRo _) (by omega) ?_
        refine r_iload_n (pc := 35) dX11_heldIn_35 rfl ?_
        refine r_callV2 (pc := 36) dX11_heldIn_36 qX11_isBelow kX11_246 vX11_isBelow (by exact isM.gx (by assumption)) rfl rfl (Nat.le_of_ble_eq_true rfl) (m_isBelow (d + 1) hB hC2 hP ha (by have := hO t (by omega); omega) (by have := hO t (by omega); omega)) (fun v_36 h_36 q_36 => ?_)
        obtain ⟨rfl, rfl⟩ := q_36
        refine rj_if_eq (pc := 39) (tgt := 46) dX11_heldIn_39 (by decide) (by first | assumption | exact b01_r | exact bz_r | omega | (constructor <;> omega) | exact hM _ | exact hPo _ | exact hTa _ | exact hRo _) (fun c_39 => ?_) (fun c_39 => ?_)
        · try simp only [b01_0, bz_0, Classical.not_not] at c_39
          refine rj_iconst (pc := 46) dX11_heldIn_46 ?_
          refine rj_iadd (pc := 47) dX11_heldIn_47 ?_
          refine r_istore_n (pc := 48) dX11_heldIn_48 (Nat.le_of_ble_eq_true rfl) ?_
          dsimp only [lsSt, List.set, mLs, mEnt]
          refine rj_iinc (pc := 49) dX11_heldIn_49 (Nat.le_of_ble_eq_true rfl) rfl ?_
          dsimp only [lsSt, List.set, mLs, mEnt]
          refine r_goto (pc := 52) (tgt := 4) dX11_heldIn_52 (by decide) ?_
          have z := ih (t + 1) (by omega)
          rw [← cnt_f (by simp only [n_held] at *; unfold heldInB heldB; simp [c_39])] at z
          exact z
        · try simp only [b01_0, bz_0, Classical.not_not] at c_39
          refine rj_iconst (pc := 42) dX11_heldIn_42 ?_
          refine r_goto (pc := 43) (tgt := 47) dX11_heldIn_43 (by decide) ?_
          refine rj_iadd (pc := 47) dX11_heldIn_47 ?_
          refine r_istore_n (pc := 48) dX11_heldIn_48 (Nat.le_of_ble_eq_true rfl) ?_
          dsimp only [lsSt, List.set, mLs, mEnt]
          refine rj_iinc (pc := 49) dX11_heldIn_49 (Nat.le_of_ble_eq_true rfl) rfl ?_
          dsimp only [lsSt, List.set, mLs, mEnt]
          refine r_goto (pc := 52) (tgt := 4) dX11_heldIn_52 (by decide) ?_
          have z := ih (t + 1) (by omega)
          rw [← cnt_t (by simp only [n_held] at *; unfold heldInB heldB; simp [c_20, c_39])] at z
          exact z
set_option maxHeartbeats 4000000 in
set_option maxRecDepth 100000 in
theorem m_heldIn {G : mG} {l : Launch} (d : Nat) {h : mH} {x s : Nat} {f4 f6 f8 f9 f10 f11 f12 f13 f14 f16 f18 : Int} {m kp was pool tape pln pap rwd rw : Nat → Int}(hB : isM h x (mFs x f4 f6 f8 f9 f10 f11 f12 f13 f14 f16 f18 s) m kp was pool tape pln pap rwd rw) (hM : ∀ q, InR (m q)) {N : Nat} (hN : m 1 = (N : Int)) (hcap : N ≤ 90) {C : Nat} (hC2 : C ≤ 60) (hP : parOk m C) (hO : ownOk m N C) {a : Int} (ha : InR a) : RUNM G l (d + 3) mX11_heldIn [.ref x, .int (J a)] h (fun v h' => v = some (.int (J (cnt (heldInB m C a) N))) ∧ h' = h) := by
  refine RUNM.of (by decide +kernel) (Nat.le_of_ble_eq_true rfl) ?_
  refine rj_iconst (pc := 0) dX11_heldIn_0 ?_
  refine r_istore_n (pc := 1) dX11_heldIn_1 (Nat.le_of_ble_eq_true rfl) ?_
  dsimp only [lsSt, List.set, mLs, mEnt]
  refine rj_iconst (pc := 2) dX11_heldIn_2 ?_
  refine r_istore_n (pc := 3) dX11_heldIn_3 (Nat.le_of_ble_eq_true rfl) ?_
  dsimp only [lsSt, List.set, mLs, mEnt]
  exact L_heldIn d hB hM hN hcap hC2 hP hO ha N 0 (by omega)

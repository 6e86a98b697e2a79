/-! ===== contracts of the reference: rows of steps, whole texts ===== -/
def stepsL (sr : Nat → Int) (len : Int) (st : PS → Bool × PS) : Nat → Int → Bool × PS → (Bool × PS) × Int
  | 0, n, r => (r, n)
  | k + 1, n, r => if r.1 = true ∧ hereF sr len r.2.1 = 59 then stepsL sr len st k (n + 1) (st (advF r.2)) else (r, n)
def setN (z : (Bool × PS) × Int) : Bool × PS := (z.1.1, (z.1.2.1, z.1.2.2.1, z.1.2.2.2.1, z.2, z.1.2.2.2.2.2))
def stepsR (sr : Nat → Int) (len : Int) (st : PS → Bool × PS) (q : PS) : Bool × PS := setN (stepsL sr len st (len.toNat + 1) 1 (st q))
theorem setN_ok {len : Int} {z : (Bool × PS) × Int} (h : psOk len z.1.2) : psOk len (setN z).2 := h
theorem stepsL_p {sr : Nat → Int} {len : Int} {st : PS → Bool × PS} (hs : psUp len st) : ∀ (k : Nat) (n : Int) (r : Bool × PS), psOk len r.2 → psOk len (stepsL sr len st k n r).1.2 ∧ r.2.1 ≤ (stepsL sr len st k n r).1.2.1
  | 0, n, r, h => ⟨h, Int.le_refl _⟩
  | k + 1, n, r, h => by
    unfold stepsL
    split
    · rename_i c
      have hl := here_lt (sr := sr) (len := len) (a := r.2.1) (by omega)
      have h1 := adv_ok h hl
      obtain ⟨a, b⟩ := hs _ h1
      obtain ⟨c1, c2⟩ := stepsL_p hs k (n + 1) _ a
      exact ⟨c1, Int.le_trans (Int.le_trans adv_up b) c2⟩
    · exact ⟨h, Int.le_refl _⟩
theorem stepsR_p {sr : Nat → Int} {len : Int} {st : PS → Bool × PS} (hs : psUp len st) : psUp len (stepsR sr len st) := by
  intro q hq
  obtain ⟨a, b⟩ := hs q hq
  obtain ⟨c, d⟩ := stepsL_p (sr := sr) hs (len.toNat + 1) 1 (st q) a
  exact ⟨setN_ok c, Int.le_trans b d⟩
set_option maxHeartbeats 4000000 in
set_option maxRecDepth 100000 in
theorem L_steps {G : mG} {l : Launch} {x s : Nat} {f4 f6 f9 f14 f16 f18 : Int} {m kp was pool tape pln pap rwd rw sr : Nat → Int} (hT : txOk s sr pool tape f9) {w : Int} {it : Bool} {st : PS → Bool × PS} (hup : psUp f9 st) {D : Nat} (hSt : ∀ (q : PS) (h : mH), isM h x (mFs x f4 f6 q.1 f9 q.2.1 q.2.2.1 q.2.2.2.1 q.2.2.2.2 f14 f16 f18 s) m kp was pool tape pln pap rwd rw → psOk f9 q → RUNM G l D mX11_isStepRead [.ref x, .int (J w), .int (J (bz it)), .int (J 0)] h (fun v h' => v = some (.int (J (bz (st q).1))) ∧ isM h' x (mFs x f4 f6 ((st q).2).1 f9 ((st q).2).2.1 ((st q).2).2.2.1 ((st q).2).2.2.2.1 ((st q).2).2.2.2.2 f14 f16 f18 s) m kp was pool tape pln pap rwd rw ∧ Same (mBlk x) h h')) : ∀ (k : Nat) (n : Int) (r : Bool × PS) (h : mH), isM h x (mFs x f4 f6 r.2.1 f9 r.2.2.1 r.2.2.2.1 r.2.2.2.2.1 r.2.2.2.2.2 f14 f16 f18 s) m kp was pool tape pln pap rwd rw → psOk f9 r.2 → f9 - r.2.1 < k → RUN G l (D + 1) mX11_isStepsRead 11 [some (.ref x), some (.int (J w)), some (.int (J (bz it))), some (.int (J (bz r.1))), some (.int (J n))] [] h (fun v h' => v = some (.int (J (bz (setN (stepsL sr f9 st k n r)).1))) ∧ isM h' x (mFs x f4 f6 ((setN (stepsL sr f9 st k n r)).2).1 f9 ((setN (stepsL sr f9 st k n r)).2).2.1 ((setN (stepsL sr f9 st k n r)).2).2.2.1 ((setN (stepsL sr f9 st k n r)).2).2.2.2.1 ((setN (stepsL sr f9 st k n r)).2).2.2.2.2 f14 f16 f18 s) m kp was pool tape pln pap rwd rw ∧ Same (mBlk x) h h') := by
  obtain ⟨hsx, hl0, hby⟩ := id hT
  intro k
  induction k with
  | zero =>
    intro n r h hB hq hk
    have hB0 := hB
    dsimp only [mFs] at hB
    obtain ⟨hq1, hq2, hq3, hq4, hq5, hq6, hq7, hq8⟩ := id hq
    have hh := here_r hT r.2.1
    exfalso; omega
  | succ k ih =>
    intro n r h hB hq hk
    have hB0 := hB
    dsimp only [mFs] at hB
    obtain ⟨hq1, hq2, hq3, hq4, hq5, hq6, hq7, hq8⟩ := id hq
    have hh := here_r hT r.2.1
    refine r_iload_n (pc := 11) dX11_isStepsRead_11 rfl ?_
    refine rj_if_eq (pc := 12) (tgt := 48) dX11_isStepsRead_12 (by decide) (by first | assumption | exact b01_r | exact bz_r | omega | (constructor <;> omega) | exact hM _ | exact hPo _ | exact hTa _ | exact hRo _) (fun c_12 => ?_) (fun c_12 => ?_)
    · try simp only [b01_0, bz_0, Classical.not_not] at c_12
      refine r_aload_n (pc := 48) dX11_isStepsRead_48 rfl (by first | rfl | exact isRefV_rf _) ?_
      refine r_iload (pc := 49) dX11_isStepsRead_49 rfl ?_
      refine rm_putf (pc := 51) dX11_isStepsRead_51 fX11_112 (by assumption) rfl rfl (Nat.le_of_ble_eq_true rfl) (fun h_51 hB_51 hS_51 => ?_)
      dsimp only [List.set, mFs] at hB_51
      refine r_iload_n (pc := 54) dX11_isStepsRead_54 rfl ?_
      refine r_ireturn (pc := 55) .boolean dX11_isStepsRead_55 rfl (by first | exact nar_J0 | exact nar_J1 | exact nar_b01 | exact nar_bz) ?_
      have e : stepsL sr f9 st (k + 1) n r = (r, n) := by unfold stepsL; rw [if_neg (fun g => c_12 g.1)]
      rw [e]
      exact ⟨rfl, hB_51, hS_51⟩
    · try simp only [b01_0, bz_0, Classical.not_not] at c_12
      refine r_aload_n (pc := 15) dX11_isStepsRead_15 rfl (by first | rfl | exact isRefV_rf _) ?_
      refine r_callV0 (pc := 16) dX11_isStepsRead_16 qX11_here kX11_74 vX11_here (by exact isM.gx (by assumption)) rfl rfl (Nat.le_of_ble_eq_true rfl) (m_here (q := r.2) D hB0 hT hq) (fun v_16 h_16 q_16 => ?_)
      obtain ⟨rfl, rfl⟩ := q_16
      refine rj_bipush (pc := 19) dX11_isStepsRead_19 (by decide +kernel) ?_
      refine rj_icmp_ne (pc := 21) (tgt := 48) dX11_isStepsRead_21 (by decide) (by first | assumption | exact b01_r | exact bz_r | omega | (constructor <;> omega) | exact hM _ | exact hPo _ | exact hTa _ | exact hRo _) (by first | assumption | exact b01_r | exact bz_r | omega | (constructor <;> omega) | exact hM _ | exact hPo _ | exact hTa _ | exact hRo _) (fun c_21 => ?_) (fun c_21 => ?_)
      · refine r_aload_n (pc := 48) dX11_isStepsRead_48 rfl (by first | rfl | exact isRefV_rf _) ?_
        refine r_iload (pc := 49) dX11_isStepsRead_49 rfl ?_
        refine rm_putf (pc := 51) dX11_isStepsRead_51 fX11_112 (by assumption) rfl rfl (Nat.le_of_ble_eq_true rfl) (fun h_51 hB_51 hS_51 => ?_)
        dsimp only [List.set, mFs] at hB_51
        refine r_iload_n (pc := 54) dX11_isStepsRead_54 rfl ?_
        refine r_ireturn (pc := 55) .boolean dX11_isStepsRead_55 rfl (by first | exact nar_J0 | exact nar_J1 | exact nar_b01 | exact nar_bz) ?_
        have e : stepsL sr f9 st (k + 1) n r = (r, n) := by unfold stepsL; rw [if_neg (fun g => c_21 g.2)]
        rw [e]
        exact ⟨rfl, hB_51, hS_51⟩
      · have hl := here_lt (sr := sr) (len := f9) (a := r.2.1) (by omega)
        refine r_aload_n (pc := 24) dX11_isStepsRead_24 rfl (by first | rfl | exact isRefV_rf _) ?_
        refine r_dup (pc := 25) dX11_isStepsRead_25 (by first | rfl | (cases ‹Option Nat› <;> rfl)) ?_
        refine rm_getf (pc := 26) dX11_isStepsRead_26 fX11_65 (by assumption) rfl ?_
        refine rj_iconst (pc := 29) dX11_isStepsRead_29 ?_
        refine rj_iadd (pc := 30) dX11_isStepsRead_30 ?_
        refine rm_putf (pc := 31) dX11_isStepsRead_31 fX11_65 (by assumption) rfl rfl (Nat.le_of_ble_eq_true rfl) (fun h_31 hB_31 hS_31 => ?_)
        dsimp only [List.set, mFs] at hB_31
        refine rj_iinc (pc := 34) dX11_isStepsRead_34 (Nat.le_of_ble_eq_true rfl) rfl ?_
        dsimp only [lsSt, List.set, mLs, mEnt]
        refine r_aload_n (pc := 37) dX11_isStepsRead_37 rfl (by first | rfl | exact isRefV_rf _) ?_
        refine r_iload_n (pc := 38) dX11_isStepsRead_38 rfl ?_
        refine r_iload_n (pc := 39) dX11_isStepsRead_39 rfl ?_
        refine rj_iconst (pc := 40) dX11_isStepsRead_40 ?_
        refine r_callV3 (pc := 41) dX11_isStepsRead_41 qX11_isStepRead kX11_108 vX11_isStepRead (by exact isM.gx (by assumption)) rfl rfl (Nat.le_of_ble_eq_true rfl) (hSt (advF r.2) _ hB_31 (adv_ok hq hl)) (fun v_41 h_41 q_41 => ?_)
        obtain ⟨rfl, hB_41, hS_41⟩ := q_41
        refine r_istore_n (pc := 44) dX11_isStepsRead_44 (Nat.le_of_ble_eq_true rfl) ?_
        dsimp only [lsSt, List.set, mLs, mEnt]
        refine r_goto (pc := 45) (tgt := 11) dX11_isStepsRead_45 (by decide) ?_
        have z := ih (n + 1) (st (advF r.2)) _ hB_41 (hup _ (adv_ok hq hl)).1 (by have := (hup _ (adv_ok hq hl)).2; have e : (advF r.2).1 = r.2.1 + 1 := rfl; omega)
        rw [show stepsL sr f9 st (k + 1) n r = stepsL sr f9 st k (n + 1) (st (advF r.2)) by rw [stepsL, if_pos ⟨c_12, c_21⟩]]
        exact z.mono (fun v h' g => ⟨g.1, g.2.1, (hS_31.trans hS_41).trans g.2.2⟩)
set_option maxHeartbeats 4000000 in
set_option maxRecDepth 100000 in
theorem m_isStepsRead {G : mG} {l : Launch} {h : mH} {x s : Nat} {f4 f6 f9 f14 f16 f18 : Int} {q : PS} {m kp was pool tape pln pap rwd rw sr : Nat → Int} (hB : isM h x (mFs x f4 f6 q.1 f9 q.2.1 q.2.2.1 q.2.2.2.1 q.2.2.2.2 f14 f16 f18 s) m kp was pool tape pln pap rwd rw) (hT : txOk s sr pool tape f9) (hq : psOk f9 q) {w : Int} {it : Bool} {st : PS → Bool × PS} (hup : psUp f9 st) {D : Nat} (hSt : ∀ (q : PS) (h : mH), isM h x (mFs x f4 f6 q.1 f9 q.2.1 q.2.2.1 q.2.2.2.1 q.2.2.2.2 f14 f16 f18 s) m kp was pool tape pln pap rwd rw → psOk f9 q → RUNM G l D mX11_isStepRead [.ref x, .int (J w), .int (J (bz it)), .int (J 0)] h (fun v h' => v = some (.int (J (bz (st q).1))) ∧ isM h' x (mFs x f4 f6 ((st q).2).1 f9 ((st q).2).2.1 ((st q).2).2.2.1 ((st q).2).2.2.2.1 ((st q).2).2.2.2.2 f14 f16 f18 s) m kp was pool tape pln pap rwd rw ∧ Same (mBlk x) h h')) : RUNM G l (D + 1) mX11_isStepsRead [.ref x, .int (J w), .int (J (bz it))] h (fun v h' => v = some (.int (J (bz (stepsR sr f9 st q).1))) ∧ isM h' x (mFs x f4 f6 ((stepsR sr f9 st q).2).1 f9 ((stepsR sr f9 st q).2).2.1 ((stepsR sr f9 st q).2).2.2.1 ((stepsR sr f9 st q).2).2.2.2.1 ((stepsR sr f9 st q).2).2.2.2.2 f14 f16 f18 s) m kp was pool tape pln pap rwd rw ∧ Same (mBlk x) h h') := by
  have hB0 := hB
  dsimp only [mFs] at hB
  refine RUNM.of (by decide +kernel) (Nat.le_of_ble_eq_true rfl) ?_
  obtain ⟨hq1, hq2, hq3, hq4, hq5, hq6, hq7, hq8⟩ := id hq
  obtain ⟨hs, hl0, hby⟩ := id hT
  refine r_aload_n (pc := 0) dX11_isStepsRead_0 rfl (by first | rfl | exact isRefV_rf _) ?_
  refine r_iload_n (pc := 1) dX11_isStepsRead_1 rfl ?_
  refine r_iload_n (pc := 2) dX11_isStepsRead_2 rfl ?_
  refine rj_iconst (pc := 3) dX11_isStepsRead_3 ?_
  refine r_callV3 (pc := 4) dX11_isStepsRead_4 qX11_isStepRead kX11_108 vX11_isStepRead (by exact isM.gx (by assumption)) rfl rfl (Nat.le_of_ble_eq_true rfl) (hSt q _ hB0 hq) (fun v_4 h_4 q_4 => ?_)
  obtain ⟨rfl, hB_4, hS_4⟩ := q_4
  refine r_istore_n (pc := 7) dX11_isStepsRead_7 (Nat.le_of_ble_eq_true rfl) ?_
  dsimp only [lsSt, List.set, mLs, mEnt]
  refine rj_iconst (pc := 8) dX11_isStepsRead_8 ?_
  refine r_istore (pc := 9) dX11_isStepsRead_9 (Nat.le_of_ble_eq_true rfl) ?_
  dsimp only [lsSt, List.set, mLs, mEnt]
  have z := L_steps (G := G) (l := l) hT hup hSt (f9.toNat + 1) 1 (st q) _ hB_4 (hup _ hq).1 (by have := (hup _ hq).2; omega)
  exact z.mono (fun v h' g => ⟨g.1, g.2.1, hS_4.trans g.2.2⟩)
/-- step, by depth: what it is that a step's own reading stands on -/
def stepN (sr : Nat → Int) (len : Int) : Nat → Int → Bool → Bool → PS → Bool × PS
  | 0, _, _, _, q => (false, q)
  | n + 1, w, it, bh, q => stepR sr len (takeG sr len (stepsR sr len (stepN sr len n (w + 1) false false)) w) (stepN sr len n w false true) it bh q
theorem stepN_p {sr : Nat → Int} {len : Int} : ∀ (n : Nat) (w : Int) (it bh : Bool), psUp len (stepN sr len n w it bh)
  | 0, _, _, _ => fun q hq => ⟨hq, Int.le_refl _⟩
  | n + 1, w, it, bh => by
    have h1 := stepN_p (sr := sr) (len := len) n (w + 1) false false
    have h2 := stepN_p (sr := sr) (len := len) n w false true
    intro q hq
    exact stepR_p (takeG_p (stepsR_p h1)) h2 q hq
set_option maxHeartbeats 4000000 in
set_option maxRecDepth 100000 in
theorem m_stepN {G : mG} {l : Launch} {x s : Nat} {f4 f6 f9 f14 f16 f18 : Int} {m kp was pool tape pln pap rwd rw sr : Nat → Int} (hT : txOk s sr pool tape f9) : ∀ (n : Nat) (w : Int) (it bh : Bool), 0 ≤ w → w ≤ 3 → (3 - w) * 2 + (if bh then 1 else 2) ≤ n → ∀ (q : PS) (h : mH), isM h x (mFs x f4 f6 q.1 f9 q.2.1 q.2.2.1 q.2.2.2.1 q.2.2.2.2 f14 f16 f18 s) m kp was pool tape pln pap rwd rw → psOk f9 q → RUNM G l (3 * n + 6) mX11_isStepRead [.ref x, .int (J w), .int (J (bz it)), .int (J (bz bh))] h (fun v h' => v = some (.int (J (bz (stepN sr f9 n w it bh q).1))) ∧ isM h' x (mFs x f4 f6 ((stepN sr f9 n w it bh q).2).1 f9 ((stepN sr f9 n w it bh q).2).2.1 ((stepN sr f9 n w it bh q).2).2.2.1 ((stepN sr f9 n w it bh q).2).2.2.2.1 ((stepN sr f9 n w it bh q).2).2.2.2.2 f14 f16 f18 s) m kp was pool tape pln pap rwd rw ∧ Same (mBlk x) h h') := by
  intro n
  induction n with
  | zero =>
    intro w it bh h0 h3 hn
    exfalso
    split at hn <;> omega
  | succ n ih =>
    intro w it bh h0 h3 hn q h hB hq
    have hSt : w ≤ 2 → ∀ (q : PS) (h : mH), isM h x (mFs x f4 f6 q.1 f9 q.2.1 q.2.2.1 q.2.2.2.1 q.2.2.2.2 f14 f16 f18 s) m kp was pool tape pln pap rwd rw → psOk f9 q → RUNM G l (3 * n + 5 + 2) mX11_isStepsRead [.ref x, .int (J (w + 1)), .int (J 0)] h (fun v h' => v = some (.int (J (bz (stepsR sr f9 (stepN sr f9 n (w + 1) false false) q).1))) ∧ isM h' x (mFs x f4 f6 ((stepsR sr f9 (stepN sr f9 n (w + 1) false false) q).2).1 f9 ((stepsR sr f9 (stepN sr f9 n (w + 1) false false) q).2).2.1 ((stepsR sr f9 (stepN sr f9 n (w + 1) false false) q).2).2.2.1 ((stepsR sr f9 (stepN sr f9 n (w + 1) false false) q).2).2.2.2.1 ((stepsR sr f9 (stepN sr f9 n (w + 1) false false) q).2).2.2.2.2 f14 f16 f18 s) m kp was pool tape pln pap rwd rw ∧ Same (mBlk x) h h') := by
      intro hw q h hB hq
      have z := m_isStepsRead (G := G) (l := l) (w := w + 1) (it := false) (st := stepN sr f9 n (w + 1) false false) (D := 3 * n + 6) hB hT hq (stepN_p n _ _ _) (fun q h hB hq => by
        have y := ih (w + 1) false false (by omega) (by omega) (by simp only [Bool.false_eq_true, if_false] at hn ⊢; split at hn <;> omega) q h hB hq
        rw [show bz false = 0 from bz_f (by decide)] at y
        rw [show bz false = 0 from bz_f (by decide)]
        exact y)
      rw [show bz false = 0 from bz_f (by decide)] at z
      exact z
    have hTk : ∀ (q : PS) (h : mH), isM h x (mFs x f4 f6 q.1 f9 q.2.1 q.2.2.1 q.2.2.2.1 q.2.2.2.2 f14 f16 f18 s) m kp was pool tape pln pap rwd rw → psOk f9 q → RUNM G l (3 * n + 3 + 5) mX11_isTakeRead [.ref x, .int (J w)] h (fun v h' => v = some (.int (J (bz (takeG sr f9 (stepsR sr f9 (stepN sr f9 n (w + 1) false false)) w q).1))) ∧ isM h' x (mFs x f4 f6 ((takeG sr f9 (stepsR sr f9 (stepN sr f9 n (w + 1) false false)) w q).2).1 f9 ((takeG sr f9 (stepsR sr f9 (stepN sr f9 n (w + 1) false false)) w q).2).2.1 ((takeG sr f9 (stepsR sr f9 (stepN sr f9 n (w + 1) false false)) w q).2).2.2.1 ((takeG sr f9 (stepsR sr f9 (stepN sr f9 n (w + 1) false false)) w q).2).2.2.2.1 ((takeG sr f9 (stepsR sr f9 (stepN sr f9 n (w + 1) false false)) w q).2).2.2.2.2 f14 f16 f18 s) m kp was pool tape pln pap rwd rw ∧ Same (mBlk x) h h') := by
      intro q h hB hq
      exact m_isTakeRead (G := G) (l := l) 5 (e := 3 * n) hB hT hq h0 h3 (fun q hq => (stepsR_p (stepN_p n _ _ _) q hq).1) hSt
    have hIn : bh = false → ∀ (q : PS) (h : mH), isM h x (mFs x f4 f6 q.1 f9 q.2.1 q.2.2.1 q.2.2.2.1 q.2.2.2.2 f14 f16 f18 s) m kp was pool tape pln pap rwd rw → psOk f9 q → RUNM G l (3 * n + 3 + 5) mX11_isStepRead [.ref x, .int (J w), .int (J 0), .int (J 1)] h (fun v h' => v = some (.int (J (bz (stepN sr f9 n w false true q).1))) ∧ isM h' x (mFs x f4 f6 ((stepN sr f9 n w false true q).2).1 f9 ((stepN sr f9 n w false true q).2).2.1 ((stepN sr f9 n w false true q).2).2.2.1 ((stepN sr f9 n w false true q).2).2.2.2.1 ((stepN sr f9 n w false true q).2).2.2.2.2 f14 f16 f18 s) m kp was pool tape pln pap rwd rw ∧ Same (mBlk x) h h') := by
      intro hb q h hB hq
      have y := ih w false true h0 h3 (by rw [hb] at hn; simp only [Bool.false_eq_true, if_false, if_true] at hn ⊢; omega) q h hB hq
      rw [show bz false = 0 from bz_f (by decide), show bz true = 1 from bz_t rfl] at y
      exact y.deeper (by omega)
    exact m_isStepRead (G := G) (l := l) 0 (n := 3 * n + 3) hB hT hq hTk hIn

section mg_26
set_option maxHeartbeats 4000000 in
set_option maxRecDepth 100000 in
theorem m_stepN {G : mG} {l : Launch} {x s : Nat} {f4 f6 f9 f14 f16 f18 : Int} {m kp was pool tape pln pap rwd rw sr : Nat → Int} (hT : txOk s sr pool tape f9) : ∀ (n : Nat) (w : Int) (it bh : Bool), 0 ≤ w → w ≤ 3 → (3 - w) * 2 + (if bh then 1 else 2) ≤ n → ∀ (q : PS) (h : mH), isM h x (mFs x f4 f6 q.1 f9 q.2.1 q.2.2.1 q.2.2.2.1 q.2.2.2.2 f14 f16 f18 s) m kp was pool tape pln pap rwd rw → psOk f9 q → RUNM G l (3 * n + 6) mX11_isStepRead [.ref x, .int (J w), .int (J (bz it)), .int (J (bz bh))] h (fun v h' => v = some (.int (J (bz (stepN sr f9 n w it bh q).1))) ∧ isM h' x (mFs x f4 f6 ((stepN sr f9 n w it bh q).2).1 f9 ((stepN sr f9 n w it bh q).2).2.1 ((stepN sr f9 n w it bh q).2).2.2.1 ((stepN sr f9 n w it bh q).2).2.2.2.1 ((stepN sr f9 n w it bh q).2).2.2.2.2 f14 f16 f18 s) m kp was pool tape pln pap rwd rw ∧ Same (mBlk x) h h') := by
  intro n
  induction n with
  | zero =>
    intro w it bh h0 h3 hn
    exfalso
    split at hn <;> omega
  | succ n ih =>
    intro w it bh h0 h3 hn q h hB hq
    have hSt : w ≤ 2 → ∀ (q : PS) (h : mH), isM h x (mFs x f4 f6 q.1 f9 q.2.1 q.2.2.1 q.2.2.2.1 q.2.2.2.2 f14 f16 f18 s) m kp was pool tape pln pap rwd rw → psOk f9 q → RUNM G l (3 * n + 5 + 2) mX11_isStepsRead [.ref x, .int (J (w + 1)), .int (J 0)] h (fun v h' => v = some (.int (J (bz (stepsR sr f9 (stepN sr f9 n (w + 1) false false) q).1))) ∧ isM h' x (mFs x f4 f6 ((stepsR sr f9 (stepN sr f9 n (w + 1) false false) q).2).1 f9 ((stepsR sr f9 (stepN sr f9 n (w + 1) false false) q).2).2.1 ((stepsR sr f9 (stepN sr f9 n (w + 1) false false) q).2).2.2.1 ((stepsR sr f9 (stepN sr f9 n (w + 1) false false) q).2).2.2.2.1 ((stepsR sr f9 (stepN sr f9 n (w + 1) false false) q).2).2.2.2.2 f14 f16 f18 s) m kp was pool tape pln pap rwd rw ∧ Same (mBlk x) h h') := by
      intro hw q h hB hq
      have z := m_isStepsRead (G := G) (l := l) (w := w + 1) (it := false) (st := stepN sr f9 n (w + 1) false false) (D := 3 * n + 6) hB hT hq (stepN_p n _ _ _) (fun q h hB hq => by
        have y := ih (w + 1) false false (by omega) (by omega) (by simp only [Bool.false_eq_true, if_false] at hn ⊢; split at hn <;> omega) q h hB hq
        rw [show bz false = 0 from bz_f (by decide)] at y
        rw [show bz false = 0 from bz_f (by decide)]
        exact y)
      rw [show bz false = 0 from bz_f (by decide)] at z
      exact z
    have hTk : ∀ (q : PS) (h : mH), isM h x (mFs x f4 f6 q.1 f9 q.2.1 q.2.2.1 q.2.2.2.1 q.2.2.2.2 f14 f16 f18 s) m kp was pool tape pln pap rwd rw → psOk f9 q → RUNM G l (3 * n + 3 + 5) mX11_isTakeRead [.ref x, .int (J w)] h (fun v h' => v = some (.int (J (bz (takeG sr f9 (stepsR sr f9 (stepN sr f9 n (w + 1) false false)) w q).1))) ∧ isM h' x (mFs x f4 f6 ((takeG sr f9 (stepsR sr f9 (stepN sr f9 n (w + 1) false false)) w q).2).1 f9 ((takeG sr f9 (stepsR sr f9 (stepN sr f9 n (w + 1) false false)) w q).2).2.1 ((takeG sr f9 (stepsR sr f9 (stepN sr f9 n (w + 1) false false)) w q).2).2.2.1 ((takeG sr f9 (stepsR sr f9 (stepN sr f9 n (w + 1) false false)) w q).2).2.2.2.1 ((takeG sr f9 (stepsR sr f9 (stepN sr f9 n (w + 1) false false)) w q).2).2.2.2.2 f14 f16 f18 s) m kp was pool tape pln pap rwd rw ∧ Same (mBlk x) h h') := by
      intro q h hB hq
      exact m_isTakeRead (G := G) (l := l) 5 (e := 3 * n) hB hT hq h0 h3 (fun q hq => (stepsR_p (stepN_p n _ _ _) q hq).1) hSt
    have hIn : bh = false → ∀ (q : PS) (h : mH), isM h x (mFs x f4 f6 q.1 f9 q.2.1 q.2.2.1 q.2.2.2.1 q.2.2.2.2 f14 f16 f18 s) m kp was pool tape pln pap rwd rw → psOk f9 q → RUNM G l (3 * n + 3 + 5) mX11_isStepRead [.ref x, .int (J w), .int (J 0), .int (J 1)] h (fun v h' => v = some (.int (J (bz (stepN sr f9 n w false true q).1))) ∧ isM h' x (mFs x f4 f6 ((stepN sr f9 n w false true q).2).1 f9 ((stepN sr f9 n w false true q).2).2.1 ((stepN sr f9 n w false true q).2).2.2.1 ((stepN sr f9 n w false true q).2).2.2.2.1 ((stepN sr f9 n w false true q).2).2.2.2.2 f14 f16 f18 s) m kp was pool tape pln pap rwd rw ∧ Same (mBlk x) h h') := by
      intro hb q h hB hq
      have y := ih w false true h0 h3 (by rw [hb] at hn; simp only [Bool.false_eq_true, if_false, if_true] at hn ⊢; omega) q h hB hq
      rw [show bz false = 0 from bz_f (by decide), show bz true = 1 from bz_t rfl] at y
      exact y.deeper (by omega)
    exact m_isStepRead (G := G) (l := l) 0 (n := 3 * n + 3) hB hT hq hTk hIn
end mg_26

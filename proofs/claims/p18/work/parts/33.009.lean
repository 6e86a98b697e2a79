section mg_33
end mg_33
section mg_34
/-! ===== contracts of the reference: texts of steps from their begin; the pool; scopes above ===== -/
def stepsW (sr : Nat → Int) (len : Int) (w : Int) (it : Bool) : PS → Bool × PS := stepsR sr len (stepN sr len 8 w it false)
theorem stepsW_p {sr : Nat → Int} {len w : Int} {it : Bool} : psUp len (stepsW sr len w it) := stepsR_p (stepN_p _ _ _ _)
set_option maxHeartbeats 4000000 in
set_option maxRecDepth 100000 in
theorem m_stepsW {G : mG} {l : Launch} {h : mH} {x s : Nat} {f4 f6 f9 f14 f16 f18 : Int} {q : PS} {m kp was pool tape pln pap rwd rw sr : Nat → Int} (hB : isM h x (mFs x f4 f6 q.1 f9 q.2.1 q.2.2.1 q.2.2.2.1 q.2.2.2.2 f14 f16 f18 s) m kp was pool tape pln pap rwd rw) (hT : txOk s sr pool tape f9) (hq : psOk f9 q) {w : Int} {it : Bool} (h0 : 0 ≤ w) (h3 : w ≤ 3) : RUNM G l 31 mX11_isStepsRead [.ref x, .int (J w), .int (J (bz it))] h (fun v h' => v = some (.int (J (bz (stepsW sr f9 w it q).1))) ∧ isM h' x (mFs x f4 f6 ((stepsW sr f9 w it q).2).1 f9 ((stepsW sr f9 w it q).2).2.1 ((stepsW sr f9 w it q).2).2.2.1 ((stepsW sr f9 w it q).2).2.2.2.1 ((stepsW sr f9 w it q).2).2.2.2.2 f14 f16 f18 s) m kp was pool tape pln pap rwd rw ∧ Same (mBlk x) h h') :=
  m_isStepsRead (D := 30) hB hT hq (stepN_p _ _ _ _) (fun q h hB hq => by
    have y := m_stepN (G := G) (l := l) hT 8 w it false h0 h3 (by simp only [Bool.false_eq_true, if_false]; omega) q h hB hq
    rw [show bz false = 0 from bz_f (by decide)] at y
    exact y)
def stepsInV (pool : Nat → Int) (fr to : Int) (f11 f12 : Int) : Int := if fr = to then 0 else (stepsW pool to 0 true (fr, -1, f11, f12, 90)).2.2.2.2.1
end mg_34

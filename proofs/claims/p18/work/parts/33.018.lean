section mg_34
set_option maxHeartbeats 4000000 in
set_option maxRecDepth 100000 in
theorem m_heldIn {G : mG} {l : Launch} (d : Nat) {h : mH} {x s : Nat} {f4 f6 f8 f9 f10 f11 f12 f13 f14 f16 f18 : Int} {m kp was pool tape pln pap rwd rw : Nat → Int}(hB : isM h x (mFs x f4 f6 f8 f9 f10 f11 f12 f13 f14 f16 f18 s) m kp was pool tape pln pap rwd rw) (hM : ∀ q, InR (m q)) {N : Nat} (hN : m 1 = (N : Int)) (hcap : N ≤ 90) {C : Nat} (hC2 : C ≤ 60) (hP : parOk m C) (hO : ownOk m N C) {a : Int} (ha : InR a) : RUNM G l (d + 3) mX11_heldIn [.ref x, .int (J a)] h (fun v h' => v = some (.int (J (cnt (heldInB m C a) N))) ∧ h' = h) := by
  refine RUNM.of (by decide +kernel) (Nat.le_of_ble_eq_true rfl) ?_
  refine rj_iconst (pc := 0) dX11_heldIn_0 ?_
  refine r_istore_n (pc := 1) dX11_heldIn_1 (Nat.le_of_ble_eq_true rfl) ?_
  dsimp only [lsSt, List.set, mLs, mEnt]
  refine rj_iconst (pc := 2) dX11_heldIn_2 ?_
  refine r_istore_n (pc := 3) dX11_heldIn_3 (Nat.le_of_ble_eq_true rfl) ?_
  dsimp only [lsSt, List.set, mLs, mEnt]
  exact L_heldIn d hB hM hN hcap hC2 hP hO ha N 0 (by omega)
end mg_34
section mg_35
/-! ===== contracts of the reference: entries by their stamps ===== -/
def stampV (m : Nat → Int) (e : Nat) : Int := if e < 100 then m (260 + 14 * e) else m (20 + 4 * (e - 100))
abbrev entryP (m : Nat → Int) (N C : Nat) (a : Int) (e : Nat) : Prop := if e < 100 then (e < N ∧ m (258 + 14 * e) = 0 ∧ m (259 + 14 * e) = a) else (e < C + 100 ∧ 100 < e ∧ ¬ m (18 + 4 * (e - 100)) = 2 ∧ m (19 + 4 * (e - 100)) = a)
theorem entryP_t {m : Nat → Int} {N C e : Nat} {a : Int} (h : e < 100) : entryP m N C a e ↔ (e < N ∧ m (258 + 14 * e) = 0 ∧ m (259 + 14 * e) = a) := by unfold entryP; rw [if_pos h]
theorem entryP_s {m : Nat → Int} {N C e : Nat} {a : Int} (h : ¬ e < 100) : entryP m N C a e ↔ (e < C + 100 ∧ 100 < e ∧ ¬ m (18 + 4 * (e - 100)) = 2 ∧ m (19 + 4 * (e - 100)) = a) := by unfold entryP; rw [if_neg h]
end mg_35

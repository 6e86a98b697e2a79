section mg_9i
set_option maxHeartbeats 4000000 in
set_option maxRecDepth 100000 in
theorem cr_tickUpTo {G : mG} {l : Launch} (d : Nat) {r : Nat} {T : Nat → mH → Prop} {N : Nat} {M : Int} (hN : (N : Int) ≤ M ∧ M ≤ 1000) (ho : ∀ k h, T k h → isO3 h r) (step : ∀ k h, k < N → T k h → ∃ n : Int, ∃ R1 : mH → Prop, InR n ∧ 0 ≤ n ∧ RUNM G l d mX3_beginTurn [.ref r] h (fun v h' => v = some (.int (J n)) ∧ R1 h') ∧ (∀ h', R1 h' → isO3 h' r) ∧ ∀ h', R1 h' → WK G l d r h' (T (k + 1))) (last : (N : Int) = M ∨ ∀ h, T N h → RUNM G l d mX3_beginTurn [.ref r] h (fun v h' => v = some (.int (J (-5))) ∧ h' = h)) {h : mH} (hT : T 0 h) : RUNM G l (d + 1) mX3_tickUpTo [.ref r, .int (J M)] h (fun v h' => v = some (.int (J (N : Int))) ∧ T N h') := by
  refine RUNM.of (by decide +kernel) (Nat.le_of_ble_eq_true rfl) ?_
  refine rj_iconst (pc := 0) dX3_tickUpTo_0 ?_
  refine r_istore_n (pc := 1) dX3_tickUpTo_1 (Nat.le_of_ble_eq_true rfl) ?_
  dsimp only [lsSt, List.set, mLs, mEnt]
  exact L_tickUpTo d hN ho step last N 0 h (by omega) hT
end mg_9i
section mg_9j
/-! ===== the class: the plan of a scope ===== -/
def pcL (c f : Nat → Int) (Z : Nat) (s i : Int) : Nat → Int → Int → Int → Int
  | 0, _, _, many => if i = -1 then many else -1
  | n + 1, wi, p, many =>
    if p < 0 then (if wi = s then (if i = -1 then many else -1) else pcL c f Z s i n (ownF c (100 + wi)) (peL f (100 + wi) Z 0 - 1) many)
    else if ¬ ownF c (f p.toNat) = wi then pcL c f Z s i n wi (p - 1) many
    else if 100 ≤ f p.toNat then pcL c f Z s i n (f p.toNat - 100) ((Z : Int) - 1) many
    else if many = i then f p.toNat else pcL c f Z s i n wi (p - 1) (many + 1)
theorem peL_r {f : Nat → Int} {i : Int} : ∀ n t : Nat, -1 ≤ peL f i n t ∧ peL f i n t < t + n + 1
  | 0, t => by unfold peL; omega
  | n + 1, t => by
    unfold peL
    have y := peL_r (f := f) (i := i) n (t + 1)
    split <;> omega
end mg_9j

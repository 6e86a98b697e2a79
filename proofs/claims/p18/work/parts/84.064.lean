section mg_90
set_option maxHeartbeats 4000000 in
set_option maxRecDepth 100000 in
theorem cq_heldFrom {G : mG} {l : Launch} (d : Nat) {h : mH} {w : Nat} {c : Nat → Int} {C : Nat → Nat → Int} {nm : Nat → Int64} {g : Nat → Option Nat} (hW : isW h w c C nm g) (hc : ∀ q, InR (c q)) {N : Nat} (hN : c 0 = (N : Int)) (hcap : N ≤ 90) {a : Nat} {z : Int} {f : Nat → Int} (I : isI h a 120 z f) (hz : InR z) (hf : ∀ q, InR (f q)) : RUNM G l (d + 3) mX9_heldFrom [.ref w, .ref a] h (fun v h' => v = some (.int (J (hfL c nm (fun y => lessL y z f 8 0) N 0 (-5)))) ∧ h' = h) := by
  refine RUNM.of (by decide +kernel) (Nat.le_of_ble_eq_true rfl) ?_
  refine rj_bipush (pc := 0) dX9_heldFrom_0 (by decide +kernel) ?_
  refine r_istore_n (pc := 2) dX9_heldFrom_2 (Nat.le_of_ble_eq_true rfl) ?_
  dsimp only [lsSt, List.set, mLs, mEnt]
  refine rj_iconst (pc := 3) dX9_heldFrom_3 ?_
  refine r_istore_n (pc := 4) dX9_heldFrom_4 (Nat.le_of_ble_eq_true rfl) ?_
  dsimp only [lsSt, List.set, mLs, mEnt]
  exact L_heldFrom d hW hc hN hcap I hz hf N 0 (-5) (by omega) (by omega) (by omega)
end mg_90
section mg_91
/-! ===== the class: what changes its world ===== -/
noncomputable def stO (kd num vl : Int) (y : Int64) (inn nx : Option Nat) : mO := .inl (6, [.int (J kd), .int (J num), .int (J vl), .long y, va_rf inn, va_rf nx])
theorem Same.at {P : Nat → Prop} {h h' : mH} (S : Same P h h') {b : Nat} {o : mO} (hb : ¬ P b) (e : hGet h b = some o) : hGet h' b = some o := (S.2.2.2 b hb).trans e
def adC (c : Nat → Int) (N : Nat) (o : Int) : Nat → Int := updI (updI (updI (updI c 0 ((N : Int) + 1)) (32 + 3 * N) 0) (33 + 3 * N) o) (34 + 3 * N) (-5)
def adE (c : Nat → Int) (z : Nat) : Nat → Int := updI c 10 ((z : Int) + 1)
theorem updI_R {c : Nat → Int} (hc : ∀ q, InR (c q)) {k : Nat} {v : Int} (hv : InR v) : ∀ q, InR (updI c k v q) := updI_r hc hv
end mg_91

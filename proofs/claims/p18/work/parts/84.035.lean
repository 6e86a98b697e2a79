section mg_87
set_option maxHeartbeats 4000000 in
set_option maxRecDepth 100000 in
theorem cq_scopesNotShutOf {G : mG} {l : Launch} (d : Nat) {h : mH} {w : Nat} {c : Nat → Int} {C : Nat → Nat → Int} {nm : Nat → Int64} {g : Nat → Option Nat} (hW : isW h w c C nm g) (hc : ∀ q, InR (c q)) {S : Nat} (hS : c 1 = (S : Int)) (hcapS : S ≤ 60) {i : Int} (hi : InR i) : RUNM G l (d + 1) mX9_scopesNotShutOf [.ref w, .int (J i)] h (fun v h' => v = some (.int (J (cnt (nsB c i) S))) ∧ h' = h) := by
  refine RUNM.of (by decide +kernel) (Nat.le_of_ble_eq_true rfl) ?_
  refine rj_iconst (pc := 0) dX9_scopesNotShutOf_0 ?_
  refine r_istore_n (pc := 1) dX9_scopesNotShutOf_1 (Nat.le_of_ble_eq_true rfl) ?_
  dsimp only [lsSt, List.set, mLs, mEnt]
  refine rj_iconst (pc := 2) dX9_scopesNotShutOf_2 ?_
  refine r_istore_n (pc := 3) dX9_scopesNotShutOf_3 (Nat.le_of_ble_eq_true rfl) ?_
  dsimp only [lsSt, List.set, mLs, mEnt]
  exact L_scopesNotShutOf d hW hc hS hcapS hi S 0 _ (by omega)
theorem atF_t {n : Nat} {z : Int} {f : Nat → Int} {t : Nat} (h : (t : Int) < z) (h2 : t < n) : atF n z f (t : Int) = f t := by
  unfold atF; rw [if_pos ⟨by omega, h, by omega⟩]; rfl
set_option maxHeartbeats 4000000 in
set_option maxRecDepth 100000 in
theorem cn_ent {G : mG} {l : Launch} (d : Nat) {h : mH} {w : Nat} {c : Nat → Int} {C : Nat → Nat → Int} {nm : Nat → Int64} {g : Nat → Option Nat} (hW : isW h w c C nm g) (hc : ∀ q, InR (c q)) {Z : Nat} (hZ : c 10 = (Z : Int)) (hcapZ : Z ≤ 150) (hC : ∀ q, InR (C 2 q)) {t : Nat} (ht : t < Z) : RUNM G l (d + 1) mX1_at [.ref (wA w 8), .int (J (t : Int))] h (fun v h' => v = some (.int (J (C 2 t))) ∧ h' = h) := by
  have y := ci_at (G := G) (l := l) d hW.i2 (by decide) (hc _) (i := (t : Int)) ⟨by omega, by omega⟩
  rw [atF_t (by omega) (by omega)] at y
  exact y
def enB (c : Nat → Int) (f : Nat → Int) (i : Int) (t : Nat) : Bool := decide (ownF c (f t) = i)

end mg_87

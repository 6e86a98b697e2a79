section mg_88
set_option maxHeartbeats 4000000 in
set_option maxRecDepth 100000 in
theorem cq_placeOfEntry {G : mG} {l : Launch} (d : Nat) {h : mH} {w : Nat} {c : Nat → Int} {C : Nat → Nat → Int} {nm : Nat → Int64} {g : Nat → Option Nat} (hW : isW h w c C nm g) (hc : ∀ q, InR (c q)) {Z : Nat} (hZ : c 10 = (Z : Int)) (hcapZ : Z ≤ 150) (hC : ∀ q, InR (C 2 q)) {i : Int} (hi : InR i) : RUNM G l (d + 2) mX9_placeOfEntry [.ref w, .int (J i)] h (fun v h' => v = some (.int (J (peL (C 2) i Z 0))) ∧ h' = h) := by
  refine RUNM.of (by decide +kernel) (Nat.le_of_ble_eq_true rfl) ?_
  refine rj_iconst (pc := 0) dX9_placeOfEntry_0 ?_
  refine r_istore_n (pc := 1) dX9_placeOfEntry_1 (Nat.le_of_ble_eq_true rfl) ?_
  dsimp only [lsSt, List.set, mLs, mEnt]
  exact L_placeOfEntry d hW hc hZ hcapZ hC hi Z 0 (by omega)
abbrev stP (c : Nat → Int) (e : Int) : Prop := (100 ≤ e ∧ inW c 1 60 (e - 100) ∧ c (304 + 3 * (e - 100).toNat) = 0) ∨ (e < 100 ∧ inW c 0 90 e ∧ c (32 + 3 * e.toNat) = 0)

def ltL (c : Nat → Int) (f : Nat → Int) (i : Int) : Nat → Int
  | 0 => -1
  | t + 1 => if stP c (f t) ∧ ownF c (f t) = i then f t else ltL c f i t
end mg_88

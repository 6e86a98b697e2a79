section mg_88
set_option maxHeartbeats 4000000 in
set_option maxRecDepth 100000 in
theorem cq_entryAt {G : mG} {l : Launch} (d : Nat) {h : mH} {w : Nat} {c : Nat → Int} {C : Nat → Nat → Int} {nm : Nat → Int64} {g : Nat → Option Nat} (hW : isW h w c C nm g) (hc : ∀ q, InR (c q)) {Z : Nat} (hZ : c 10 = (Z : Int)) (hcapZ : Z ≤ 150) (hC : ∀ q, InR (C 2 q)) {i k : Int} (hi : InR i) (hk : InR k) : RUNM G l (d + 2) mX9_entryAt [.ref w, .int (J i), .int (J k)] h (fun v h' => v = some (.int (J (eyL c (C 2) i k Z 0))) ∧ h' = h) := by
  refine RUNM.of (by decide +kernel) (Nat.le_of_ble_eq_true rfl) ?_
  refine rj_iconst (pc := 0) dX9_entryAt_0 ?_
  refine r_istore_n (pc := 1) dX9_entryAt_1 (Nat.le_of_ble_eq_true rfl) ?_
  dsimp only [lsSt, List.set, mLs, mEnt]
  refine rj_iconst (pc := 2) dX9_entryAt_2 ?_
  refine r_istore (pc := 3) dX9_entryAt_3 (Nat.le_of_ble_eq_true rfl) ?_
  dsimp only [lsSt, List.set, mLs, mEnt]
  exact L_entryAt d hW hc hZ hcapZ hC hi hk Z 0 (by omega)
def peL (f : Nat → Int) (i : Int) : Nat → Nat → Int
  | 0, _ => -1
  | n + 1, t => if f t = i then (t : Int) else peL f i n (t + 1)
end mg_88

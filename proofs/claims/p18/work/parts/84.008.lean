section mg_85
set_option maxHeartbeats 4000000 in
set_option maxRecDepth 100000 in
theorem cq_isWithin {G : mG} {l : Launch} (d : Nat) {h : mH} {w : Nat} {c : Nat → Int} {C : Nat → Nat → Int} {nm : Nat → Int64} {g : Nat → Option Nat} (hW : isW h w c C nm g) (hc : ∀ q, InR (c q)) (hO : oOk c) {i o : Int} (h1 : -5 ≤ i) (h2 : i ≤ 59) (ho : InR o) : RUNM G l (d + 2) mX9_isWithin [.ref w, .int (J i), .int (J o)] h (fun v h' => v = some (.int (J (bz (wiL c o 60 i)))) ∧ h' = h) := by
  refine RUNM.of (by decide +kernel) (Nat.le_of_ble_eq_true rfl) ?_
  refine r_iload_n (pc := 0) dX9_isWithin_0 rfl ?_
  refine r_istore_n (pc := 1) dX9_isWithin_1 (Nat.le_of_ble_eq_true rfl) ?_
  dsimp only [lsSt, List.set, mLs, mEnt]
  refine rj_iconst (pc := 2) dX9_isWithin_2 ?_
  refine r_istore (pc := 3) dX9_isWithin_3 (Nat.le_of_ble_eq_true rfl) ?_
  dsimp only [lsSt, List.set, mLs, mEnt]
  exact L_isWithin d hW hc hO ho 60 0 i (by omega) h1 h2
def saL (c : Nat → Int) : Nat → Int → Int
  | 0, _ => 0
  | n + 1, s => if 0 ≤ s then 1 + saL c n (ownF c (100 + s)) else 0
end mg_85

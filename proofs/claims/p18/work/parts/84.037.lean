section mg_87
set_option maxHeartbeats 4000000 in
set_option maxRecDepth 100000 in
theorem cq_entriesOf {G : mG} {l : Launch} (d : Nat) {h : mH} {w : Nat} {c : Nat → Int} {C : Nat → Nat → Int} {nm : Nat → Int64} {g : Nat → Option Nat} (hW : isW h w c C nm g) (hc : ∀ q, InR (c q)) {Z : Nat} (hZ : c 10 = (Z : Int)) (hcapZ : Z ≤ 150) (hC : ∀ q, InR (C 2 q)) {i : Int} (hi : InR i) : RUNM G l (d + 2) mX9_entriesOf [.ref w, .int (J i)] h (fun v h' => v = some (.int (J (cnt (enB c (C 2) i) Z))) ∧ h' = h) := by
  refine RUNM.of (by decide +kernel) (Nat.le_of_ble_eq_true rfl) ?_
  refine rj_iconst (pc := 0) dX9_entriesOf_0 ?_
  refine r_istore_n (pc := 1) dX9_entriesOf_1 (Nat.le_of_ble_eq_true rfl) ?_
  dsimp only [lsSt, List.set, mLs, mEnt]
  refine rj_iconst (pc := 2) dX9_entriesOf_2 ?_
  refine r_istore_n (pc := 3) dX9_entriesOf_3 (Nat.le_of_ble_eq_true rfl) ?_
  dsimp only [lsSt, List.set, mLs, mEnt]
  exact L_entriesOf d hW hc hZ hcapZ hC hi Z 0 (by omega)
end mg_87
section mg_88
/-! ===== the class: an entry by its place, the last that stands, an entry's place ===== -/
def eyL (c : Nat → Int) (f : Nat → Int) (i k : Int) : Nat → Nat → Int
  | 0, _ => -1
  | n + 1, t => if enB c f i t = true ∧ cnt (enB c f i) t = k then f t else eyL c f i k n (t + 1)
end mg_88

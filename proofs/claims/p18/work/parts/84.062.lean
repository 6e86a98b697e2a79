section mg_90
set_option maxHeartbeats 4000000 in
set_option maxRecDepth 100000 in
theorem cz_isLess {G : mG} {l : Launch} (d : Nat) {h : mH} {y : Int64} {a : Nat} {z : Int} {f : Nat → Int} (I : isI h a 120 z f) (hz : InR z) (hf : ∀ q, InR (f q)) : RUNM G l (d + 2) mX9_isLess [.long y, .ref a] h (fun v h' => v = some (.int (J (bz (lessL y z f 8 0)))) ∧ h' = h) := by
  refine RUNM.of (by decide +kernel) (Nat.le_of_ble_eq_true rfl) ?_
  refine rj_iconst (pc := 0) dX9_isLess_0 ?_
  refine r_istore_n (pc := 1) dX9_isLess_1 (Nat.le_of_ble_eq_true rfl) ?_
  dsimp only [lsSt, List.set, mLs, mEnt]
  exact L_isLess d I hz hf 8 0 _ (by omega)
noncomputable def hfL (c : Nat → Int) (nm : Nat → Int64) (L : Int64 → Bool) : Nat → Nat → Int → Int
  | 0, _, b => b
  | n + 1, t, b => hfL c nm L n (t + 1) (if c (32 + 3 * t) = 0 ∧ L (nm t) = false ∧ (b < 0 ∨ (nm t).toInt < (nm b.toNat).toInt) then (t : Int) else b)
end mg_90

section mg_35
set_option maxHeartbeats 4000000 in
set_option maxRecDepth 100000 in
theorem m_entryAhead {G : mG} {l : Launch} (d : Nat) {h : mH} {x s : Nat} {f4 f6 f8 f9 f10 f11 f12 f13 f14 f16 f18 : Int} {m kp was pool tape pln pap rwd rw : Nat → Int}(hB : isM h x (mFs x f4 f6 f8 f9 f10 f11 f12 f13 f14 f16 f18 s) m kp was pool tape pln pap rwd rw) (hM : ∀ q, InR (m q)) {N C : Nat} (hN : m 1 = (N : Int)) (hcap : N ≤ 90) (hC : m 0 = (C : Int)) (hC2 : C ≤ 60) {a : Int} (ha : InR a) {st : Int} (hst : InR st) : RUNM G l (d + 3) mX11_entryAhead [.ref x, .int (J a), .int (J st)] h (fun v h' => v = some (.int (J (eaL m N C a st 160 0 (-5)))) ∧ h' = h) := by
  refine RUNM.of (by decide +kernel) (Nat.le_of_ble_eq_true rfl) ?_
  refine rj_bipush (pc := 0) dX11_entryAhead_0 (by decide +kernel) ?_
  refine r_istore_n (pc := 2) dX11_entryAhead_2 (Nat.le_of_ble_eq_true rfl) ?_
  dsimp only [lsSt, List.set, mLs, mEnt]
  refine rj_iconst (pc := 3) dX11_entryAhead_3 ?_
  refine r_istore (pc := 4) dX11_entryAhead_4 (Nat.le_of_ble_eq_true rfl) ?_
  dsimp only [lsSt, List.set, mLs, mEnt]
  exact L_entryAhead d hB hM hN hcap hC hC2 ha hst 160 0 (-5) rfl (by decide) (by decide)
end mg_35
section mg_36
/-! ===== contracts of the reference: counters, cancel, rank, below, youngest ===== -/
/-- an int's own whole number -/
noncomputable def wrap (z : Int) : Int := (J z).toInt
theorem J_wrap (z : Int) : J z = J (wrap z) := J_of (J z)
theorem wrap_r (z : Int) : InR (wrap z) := J_rg (J z)
noncomputable def countV (m : Nat → Int) (k v : Int) : Int := if 0 ≤ k ∧ k ≤ 7 then wrap (m (10 + k).toNat + v) else -1
end mg_36

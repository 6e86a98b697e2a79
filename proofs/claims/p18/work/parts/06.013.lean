section mg_22
set_option maxHeartbeats 4000000 in
set_option maxRecDepth 100000 in
theorem m_readyOnes {G : mG} {l : Launch} (d : Nat) {h : mH} {x s : Nat} {f4 f6 f8 f9 f10 f11 f12 f13 f14 f16 f18 : Int} {m kp was pool tape pln pap rwd rw : Nat → Int}(hB : isM h x (mFs x f4 f6 f8 f9 f10 f11 f12 f13 f14 f16 f18 s) m kp was pool tape pln pap rwd rw) (hM : ∀ q, InR (m q)) {N : Nat} (hN : m 3 = (N : Int)) (hcap : N ≤ 10)  : RUNM G l (d + 2) mX11_readyOnes [.ref x] h (fun v h' => v = some (.int (J (cnt (readyB m) N))) ∧ h' = h) := by
  refine RUNM.of (by decide +kernel) (Nat.le_of_ble_eq_true rfl) ?_
  refine rj_iconst (pc := 0) dX11_readyOnes_0 ?_
  refine r_istore_n (pc := 1) dX11_readyOnes_1 (Nat.le_of_ble_eq_true rfl) ?_
  dsimp only [lsSt, List.set, mLs, mEnt]
  refine rj_iconst (pc := 2) dX11_readyOnes_2 ?_
  refine r_istore_n (pc := 3) dX11_readyOnes_3 (Nat.le_of_ble_eq_true rfl) ?_
  dsimp only [lsSt, List.set, mLs, mEnt]
  exact L_readyOnes d hB hM hN hcap  N 0 (by omega)
def shutB (m : Nat → Int) (a : Int) (q : Nat) : Bool := decide (m (21 + 4 * q) = a ∧ ¬ m (18 + 4 * q) = 2)
def faultB (m : Nat → Int) (a : Int) (q : Nat) : Bool := decide (m (2328 + 3 * q) = a)
def entTB (m : Nat → Int) (a : Int) (q : Nat) : Bool := decide (m (258 + 14 * q) = 0 ∧ m (259 + 14 * q) = a)
def entSB (m : Nat → Int) (a : Int) (q : Nat) : Bool := decide (¬ m (18 + 4 * q) = 2 ∧ m (19 + 4 * q) = a)
theorem n_sc3 (t : Nat) : (18 + 4 * (t : Int) + 3).toNat = 21 + 4 * t := by omega
theorem n_sc0 (t : Nat) : (18 + 4 * (t : Int) + 0).toNat = 18 + 4 * t := by omega
theorem n_sc1 (t : Nat) : (18 + 4 * (t : Int) + 1).toNat = 19 + 4 * t := by omega
theorem n_th1 (t : Nat) : (258 + 14 * (t : Int) + 1 + 0).toNat = 259 + 14 * t := by omega
theorem n_fa (t : Nat) : (2328 + 3 * (t : Int)).toNat = 2328 + 3 * t := by omega
end mg_22

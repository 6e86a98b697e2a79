section mg_28
set_option maxHeartbeats 4000000 in
set_option maxRecDepth 100000 in
theorem m_nameEnd {G : mG} {l : Launch} (d : Nat) {h : mH} {x s : Nat} {f4 f6 f8 f9 f10 f11 f12 f13 f14 f16 f18 : Int} {m kp was pool tape pln pap rwd rw : Nat → Int}(hB : isM h x (mFs x f4 f6 f8 f9 f10 f11 f12 f13 f14 f16 f18 s) m kp was pool tape pln pap rwd rw) (hPo : ∀ q, InR (pool q)) {p : Nat} (hp : p + 8 ≤ 12342) : RUNM G l (d + 1) mX11_nameEnd [.ref x, .int (J (p : Int))] h (fun v h' => v = some (.int (J (neL pool 7 p : Nat))) ∧ h' = h) := by
  refine RUNM.of (by decide +kernel) (Nat.le_of_ble_eq_true rfl) ?_
  refine r_iload_n (pc := 0) dX11_nameEnd_0 rfl ?_
  refine r_istore_n (pc := 1) dX11_nameEnd_1 (Nat.le_of_ble_eq_true rfl) ?_
  dsimp only [lsSt, List.set, mLs, mEnt]
  exact L_nameEnd d hB hPo hp 7 p (Nat.le_refl _) (by omega)
def naL (pool : Nat → Int) : Nat → Nat → Int → Int
  | 0, _, v => v
  | n + 1, k, v => if 48 ≤ pool k ∧ pool k ≤ 57 then naL pool n (k + 1) (10 * v + pool k - 48) else v
def stopsBy (pool : Nat → Int) : Nat → Nat → Prop
  | 0, k => ¬ (48 ≤ pool k ∧ pool k ≤ 57)
  | n + 1, k => (48 ≤ pool k ∧ pool k ≤ 57) → stopsBy pool n (k + 1)
def numAt (pool : Nat → Int) (n p : Nat) : Int := if pool p = 45 then -(naL pool (n + 1) (p + 1) 0) else naL pool (n + 1) p 0
end mg_28

section mg_28
set_option maxHeartbeats 4000000 in
set_option maxRecDepth 100000 in
theorem m_behind {G : mG} {l : Launch} (d : Nat) {h : mH} {x s : Nat} {f4 f6 f8 f9 f10 f11 f12 f13 f14 f16 f18 : Int} {m kp was pool tape pln pap rwd rw : Nat → Int}(hB : isM h x (mFs x f4 f6 f8 f9 f10 f11 f12 f13 f14 f16 f18 s) m kp was pool tape pln pap rwd rw) (hPo : ∀ q, InR (pool q)) {p E : Nat} (hp : p ≤ E) (hE : E ≤ 12342) : RUNM G l (d) mX11_behind [.ref x, .int (J (p : Int)), .int (J (E : Int))] h (fun v h' => v = some (.int (J (behL pool (E - p) p 0 : Nat))) ∧ h' = h) := by
  refine RUNM.of (by decide +kernel) (Nat.le_of_ble_eq_true rfl) ?_
  refine r_iload_n (pc := 0) dX11_behind_0 rfl ?_
  refine r_istore_n (pc := 1) dX11_behind_1 (Nat.le_of_ble_eq_true rfl) ?_
  dsimp only [lsSt, List.set, mLs, mEnt]
  refine rj_iconst (pc := 2) dX11_behind_2 ?_
  refine r_istore (pc := 3) dX11_behind_3 (Nat.le_of_ble_eq_true rfl) ?_
  dsimp only [lsSt, List.set, mLs, mEnt]
  exact L_behind d hB hPo hE (E - p) p 0 (by omega) (by omega) (by omega)
end mg_28
section mg_29
/-! ===== contracts of the reference: names ===== -/
def nmL (m rc : Nat → Int) (t fr : Nat) : Nat → Nat → Bool
  | 0, _ => true
  | n + 1, k => if m (265 + 14 * t + (k - fr)) = rc k then nmL m rc t fr n (k + 1) else false
def namedB (m rc : Nat → Int) (t fr to : Nat) : Bool := decide (m (261 + 14 * t) = (to : Int) - fr) && nmL m rc t fr (to - fr) fr
/-- the row of a name: the tape's or the pool's -/
def rowOk (rs : Nat) (rc pool tape : Nat → Int) (to : Nat) : Prop := (rs = 4 ∧ rc = tape ∧ to ≤ 120) ∨ (rs = 3 ∧ rc = pool ∧ to ≤ 12342)
theorem isM.row {h : mH} {x : Nat} {fs : List Value} {m kp was pool tape pln pap rwd rw : Nat → Int} (k : isM h x fs m kp was pool tape pln pap rwd rw) {rs : Nat} {rc : Nat → Int} {to : Nat} (hR : rowOk rs rc pool tape to) : ∃ sz : Nat, hGet h (mAd x rs) = some (.inr (.inl (sz, fun q => J (rc q)))) ∧ to ≤ sz := by
  rcases hR with ⟨rfl, rfl, g⟩ | ⟨rfl, rfl, g⟩
  · exact ⟨120, k.g4, g⟩
  · exact ⟨12342, k.g3, g⟩
end mg_29

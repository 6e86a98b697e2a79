section mg_44
end mg_44
section mg_45
/-! ===== contracts of the reference: thing, of ===== -/
/-- the reference's world, whatever its reader holds -/
def isMs (h : mH) (x : Nat) (f4 f6 f14 f16 f18 : Int) (m kp was pool tape pln pap rwd rw : Nat → Int) : Prop := ∃ (f8 f9 f10 f11 f12 f13 : Int) (s : Nat), (0 ≤ f11 ∧ f11 ≤ 99999) ∧ isM h x (mFs x f4 f6 f8 f9 f10 f11 f12 f13 f14 f16 f18 s) m kp was pool tape pln pap rwd rw
def thingV (m pool : Nat → Int) (t k f11 f12 : Int) : Int := if 0 ≤ t ∧ t ≤ m 1 - 1 then (if k = 0 then (if m (258 + 14 * t).toNat = 0 then 0 else 1) else if k = 1 then m (259 + 14 * t).toNat else if k = 2 then m (264 + 14 * t).toNat else if k = 3 then stepsInV pool (m (262 + 14 * t).toNat) (m (263 + 14 * t).toNat) f11 f12 else -1) else -1
set_option maxHeartbeats 4000000 in
set_option maxRecDepth 100000 in
theorem m_stepsInS {G : mG} {l : Launch} (d : Nat) {h : mH} {x s : Nat} {f4 f6 f8 f9 f10 f11 f12 f13 f14 f16 f18 : Int} {m kp was pool tape pln pap rwd rw : Nat → Int}(hB : isM h x (mFs x f4 f6 f8 f9 f10 f11 f12 f13 f14 f16 f18 s) m kp was pool tape pln pap rwd rw) {a b : Int} (hT : txOk 3 pool pool tape b) (h0 : 0 ≤ a) (h1 : a ≤ b) (h2 : 0 ≤ f11 ∧ f11 ≤ 99999) : RUNM G l (d + 32) mX11_stepsIn [.ref x, .int (J a), .int (J b)] h (fun v h' => v = some (.int (J (stepsInV pool a b f11 f12))) ∧ (isMs h' x f4 f6 f14 f16 f18 m kp was pool tape pln pap rwd rw ∧ Same (mBlk x) h h')) :=
  (m_stepsIn d hB hT h0 h1 h2.1 h2.2).mono (fun v h' g => ⟨g.1, g.2.elim (fun e => by rw [e.2]; exact ⟨⟨_, _, _, _, _, _, _, h2, hB⟩, Same.refl⟩) (fun e => ⟨⟨_, _, _, _, _, _, _, ⟨((stepsW_p (sr := pool) (len := b) (w := 0) (it := true)) (a, -1, f11, f12, 90) ⟨h0, h1, Int.le_refl _, (by show (-1 : Int) ≤ b; omega), h2.1, h2.2, (by show (0 : Int) ≤ 90; decide), (by show (90 : Int) ≤ a + 90; omega)⟩).1.2.2.2.2.1, ((stepsW_p (sr := pool) (len := b) (w := 0) (it := true)) (a, -1, f11, f12, 90) ⟨h0, h1, Int.le_refl _, (by show (-1 : Int) ≤ b; omega), h2.1, h2.2, (by show (0 : Int) ≤ 90; decide), (by show (90 : Int) ≤ a + 90; omega)⟩).1.2.2.2.2.2.1⟩, e.2.1⟩, e.2.2⟩)⟩)
end mg_45

section mg_98
end mg_98
section mg_99
/-! ===== the class: a step is done ===== -/
set_option maxHeartbeats 4000000 in
set_option maxRecDepth 100000 in
theorem cr_beginS {G : mG} {l : Launch} (d : Nat) {h : mH} {r : Nat} {b z : Int} {f : Nat → Int} {c : Nat → Int} {C : Nat → Nat → Int} {nm : Nat → Int64} {g : Nat → Option Nat} (hR : isR h r b z f c C nm g) (hc : ∀ q, InR (c q)) (hz0 : 0 ≤ z ∧ z < 160) {u : Nat} (hu : (u : Int) < c 1) (hu2 : u < 60) : RUNM G l (d + 2) mX3_beginToEnd [.ref r, .int (J (100 + (u : Int)))] h (fun v h' => v = none ∧ isR h' r b (z + 1) (updI f z.toNat (100 + (u : Int))) (updI c (304 + 3 * u) 2) C nm g ∧ Same (rBlk r) h h') := by
  have y := cr_beginToEndS (G := G) (l := l) d hR hc ⟨by omega, by omega⟩ hz0 (i := 100 + (u : Int)) (by omega) ⟨by omega, by omega, by omega⟩
  rw [show (100 + (u : Int) - 100).toNat = u by omega] at y
  exact y
end mg_99

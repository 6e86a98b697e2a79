section mg_68
set_option maxHeartbeats 4000000 in
set_option maxRecDepth 100000 in
theorem m_does {G : mG} {l : Launch} {D : Nat} (hD : 5 ≤ D) {x s : Nat} {f4 f6 f8 f9 f10 f11 f12 f13 f14 f16 f18 : Int} {m kp was pool tape pln pap rwd rw : Nat → Int} {cl : (Nat → Int) → Nat → (Nat → Int) → Prop} (hPo : ∀ q, InR (pool q)) (hcl : ∀ (m1 m2 : Nat → Int) (t : Nat) (h : mH), isM h x (mFs x f4 f6 f8 f9 f10 f11 f12 f13 f14 f16 f18 s) m1 kp was pool tape pln pap rwd rw → cl m1 t m2 → RUNM G l D mX11_closes [.ref x, .int (J (t : Int))] h (fun v h' => v = none ∧ isM h' x (mFs x f4 f6 f8 f9 f10 f11 f12 f13 f14 f16 f18 s) m2 kp was pool tape pln pap rwd rw ∧ Same (mBlk x) h h')) {h : mH} (hB : isM h x (mFs x f4 f6 f8 f9 f10 f11 f12 f13 f14 f16 f18 s) m kp was pool tape pln pap rwd rw) {p : Nat} {s2 f : Int} {m' : Nat → Int} (hR : doesR pool cl m p s2 f m') : RUNM G l (D + 2) mX11_does [.ref x, .int (J (p : Int)), .int (J s2)] h (fun v h' => v = some (.int (J f)) ∧ isM h' x (mFs x f4 f6 f8 f9 f10 f11 f12 f13 f14 f16 f18 s) m' kp was pool tape pln pap rwd rw ∧ Same (mBlk x) h h') := by
  rcases hR with hR | ⟨hk, hok, hs, hp, hc, n, k, hd, hk3, hcol, hnc, hnr, hR⟩
  · exact (m_step hD hPo hcl hB hR).deeper (by omega)
  · rcases hR with ⟨hcd, hR⟩ | ⟨hcd, rfl, rfl⟩
    · have y := m_step hD hPo hcl hB hR
      rw [show ((k + 1 : Nat) : Int) = (k : Int) + 1 by omega] at y
      exact (d_ifY 0 hB hp hPo hok hs hk hc hd.1 hd.2 hk3.1 hk3.2 hcol hnc hcd hnr (Q := (fun v h' => v = some (.int (J f)) ∧ isM h' x (mFs x f4 f6 f8 f9 f10 f11 f12 f13 f14 f16 f18 s) m' kp was pool tape pln pap rwd rw ∧ Same (mBlk x) h h')) (by omega) (y.mono (fun v h' q => ⟨⟨_, q.1⟩, q⟩)))
    · exact ((d_ifN 0 hB hp hPo hok hs hk hc hd.1 hd.2 hk3.1 hk3.2 hcol hnc hcd hnr).deeper (by omega)).mono (fun v h' q => ⟨q.1, q.2 ▸ hB, q.2 ▸ Same.refl⟩)
end mg_68

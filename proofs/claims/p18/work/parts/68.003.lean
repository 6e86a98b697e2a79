section mg_68
set_option maxHeartbeats 4000000 in
set_option maxRecDepth 100000 in
theorem m_step {G : mG} {l : Launch} {D : Nat} (hD : 5 ≤ D) {x s : Nat} {f4 f6 f8 f9 f10 f11 f12 f13 f14 f16 f18 : Int} {m kp was pool tape pln pap rwd rw : Nat → Int} {cl : (Nat → Int) → Nat → (Nat → Int) → Prop} (hPo : ∀ q, InR (pool q)) (hcl : ∀ (m1 m2 : Nat → Int) (t : Nat) (h : mH), isM h x (mFs x f4 f6 f8 f9 f10 f11 f12 f13 f14 f16 f18 s) m1 kp was pool tape pln pap rwd rw → cl m1 t m2 → RUNM G l D mX11_closes [.ref x, .int (J (t : Int))] h (fun v h' => v = none ∧ isM h' x (mFs x f4 f6 f8 f9 f10 f11 f12 f13 f14 f16 f18 s) m2 kp was pool tape pln pap rwd rw ∧ Same (mBlk x) h h')) {h : mH} (hB : isM h x (mFs x f4 f6 f8 f9 f10 f11 f12 f13 f14 f16 f18 s) m kp was pool tape pln pap rwd rw) {p : Nat} {s2 f : Int} {m' : Nat → Int} (hR : stpR pool cl m p s2 f m') : RUNM G l (D + 1) mX11_does [.ref x, .int (J (p : Int)), .int (J s2)] h (fun v h' => v = some (.int (J f)) ∧ isM h' x (mFs x f4 f6 f8 f9 f10 f11 f12 f13 f14 f16 f18 s) m' kp was pool tape pln pap rwd rw ∧ Same (mBlk x) h h') := by
  obtain ⟨hok, hs, hp, hR⟩ := hR
  have hN : m 1 = ((m 1).toNat : Int) := by have := hok.2.2.1; omega
  rcases hR with ⟨hk, hc, rfl, n, hd, rfl⟩ | ⟨hk, rfl, n, hd, rfl⟩ | ⟨hk, n, hpn, hst, rfl, rfl⟩ | ⟨hk, hR⟩ | ⟨hk, n, hd, hnr, hR⟩ | ⟨hk, hc, rfl, rfl⟩ | ⟨hk, rfl, rfl⟩
  · exact (d_plus 0 hB hp hPo hok hs hk hc hd.1 hd.2).deeper (by omega)
  · exact ((d_bang 0 hB hp hPo hok hs hk hd.1 hd.2).deeper (by omega)).mono (fun v h' q => ⟨q.1, q.2 ▸ hB, q.2 ▸ Same.refl⟩)
  · exact (d_take 0 hB hp hPo hok hs hk hN rfl hpn hst).deeper (by omega)
  · rcases hR with ⟨ht, rfl, rfl⟩ | ⟨ht, rfl, hcR⟩
    · exact ((d_closeN 0 hB hp hPo hok hs hk hN rfl ht).deeper (by omega)).mono (fun v h' q => ⟨q.1, q.2 ▸ hB, q.2 ▸ Same.refl⟩)
    · refine d_closeY 0 hB hp hPo hok hs hk hN rfl ht ?_ (by omega)
      have y := hcl m m' (hbL m pool (p + 1) (neL pool 7 (p + 1)) (m 1).toNat 0).toNat h hB hcR
      rw [show (((hbL m pool (p + 1) (neL pool 7 (p + 1)) (m 1).toNat 0).toNat : Nat) : Int) = (hbL m pool (p + 1) (neL pool 7 (p + 1)) (m 1).toNat 0) by omega] at y
      exact y
  · rcases hR with ⟨ht, rfl, rfl⟩ | ⟨ht, ho, rfl, rfl⟩ | ⟨ht, ho, rfl, rfl⟩
    · exact ((d_moveN 0 hB hp hPo hok hs hk hN rfl hd.1 hd.2 hnr ht).deeper (by omega)).mono (fun v h' q => ⟨q.1, q.2 ▸ hB, q.2 ▸ Same.refl⟩)
    · exact ((d_moveO 0 hB hp hPo hok hs hk hN rfl hd.1 hd.2 hnr ht ho).deeper (by omega)).mono (fun v h' q => ⟨q.1, q.2 ▸ hB, q.2 ▸ Same.refl⟩)
    · exact (d_moveY 0 hB hp hPo hok hs hk hN rfl hd.1 hd.2 hnr ht ho).deeper (by omega)
  · exact (d_cancel 0 hB hp hPo hok hs hk hc).deeper (by omega)
  · exact ((d_nop 0 hB hp hPo hok hs hk).deeper (by omega)).mono (fun v h' q => ⟨q.1, q.2 ▸ hB, q.2 ▸ Same.refl⟩)
end mg_68

/-! ===== the reference: steps and closers as relations, with a bound on how deep closers close others ===== -/
def digR (pool : Nat → Int) (p n : Nat) : Prop := n ≤ 20 ∧ stopsBy pool n (if pool (p) = 45 then p + 1 else p)
/-- a step that is no ?: from m it comes to m' with the fault f; cl: what closing a thing does -/
def stpR (pool : Nat → Int) (cl : (Nat → Int) → Nat → (Nat → Int) → Prop) (m : Nat → Int) (p : Nat) (s2 f : Int) (m' : Nat → Int) : Prop :=
  mOk m ∧ InR s2 ∧ p + 40 ≤ 12342 ∧
  ((pool p = 43 ∧ (48 ≤ pool (p + 1) ∧ pool (p + 1) ≤ 55) ∧ f = 0 ∧ ∃ n, digR pool (p + 3) n ∧ m' = updI m (10 + pool (p + 1) - 48).toNat (wrap (m (10 + pool (p + 1) - 48).toNat + numAt pool n (p + 3)))) ∨
   (pool p = 33 ∧ m' = m ∧ ∃ n, digR pool (p + 1) n ∧ f = numAt pool n (p + 1)) ∨
   (pool p = 97 ∧ ∃ n, p + 10 + n ≤ 12341 ∧ (pool (neL pool 7 (p + 1)) = 123 → brStop pool n ((neL pool 7 (p + 1)) + 1) 1) ∧ f = takenV m pool (m 1).toNat (p + 1) (neL pool 7 (p + 1)) s2 ∧ m' = takenM m pool (m 1).toNat n (p + 1) (neL pool 7 (p + 1)) s2) ∨
   (pool p = 120 ∧ (((hbL m pool (p + 1) (neL pool 7 (p + 1)) (m 1).toNat 0) < 0 ∧ f = 104 ∧ m' = m) ∨ (0 ≤ (hbL m pool (p + 1) (neL pool 7 (p + 1)) (m 1).toNat 0) ∧ f = 0 ∧ cl m (hbL m pool (p + 1) (neL pool 7 (p + 1)) (m 1).toNat 0).toNat m'))) ∨
   (pool p = 109 ∧ ∃ n, digR pool ((neL pool 7 (p + 1)) + 1) n ∧ InR (numAt pool n ((neL pool 7 (p + 1)) + 1)) ∧ (((hbL m pool (p + 1) (neL pool 7 (p + 1)) (m 1).toNat 0) < 0 ∧ f = 104 ∧ m' = m) ∨ (0 ≤ (hbL m pool (p + 1) (neL pool 7 (p + 1)) (m 1).toNat 0) ∧ ¬ openP m (numAt pool n ((neL pool 7 (p + 1)) + 1)) ∧ f = 105 ∧ m' = m) ∨ (0 ≤ (hbL m pool (p + 1) (neL pool 7 (p + 1)) (m 1).toNat 0) ∧ openP m (numAt pool n ((neL pool 7 (p + 1)) + 1)) ∧ f = 0 ∧ m' = movesM m (hbL m pool (p + 1) (neL pool 7 (p + 1)) (m 1).toNat 0).toNat (numAt pool n ((neL pool 7 (p + 1)) + 1))))) ∨
   (pool p = 107 ∧ (48 ≤ pool (p + 1) ∧ pool (p + 1) ≤ 57) ∧ f = (if (pool (p + 1) - 48) ≤ m 3 - 1 ∧ m (1610 + 72 * (pool (p + 1) - 48)).toNat = 0 then 0 else 106) ∧ m' = (if (pool (p + 1) - 48) ≤ m 3 - 1 ∧ m (1610 + 72 * (pool (p + 1) - 48)).toNat = 0 then updI m (1614 + 72 * (pool (p + 1) - 48)).toNat 1 else m)) ∨
   ((¬ pool p = 33 ∧ ¬ pool p = 43 ∧ ¬ pool p = 63 ∧ ¬ pool p = 97 ∧ ¬ pool p = 107 ∧ ¬ pool p = 109 ∧ ¬ pool p = 120) ∧ f = 0 ∧ m' = m))
def doesR (pool : Nat → Int) (cl : (Nat → Int) → Nat → (Nat → Int) → Prop) (m : Nat → Int) (p : Nat) (s2 f : Int) (m' : Nat → Int) : Prop :=
  stpR pool cl m p s2 f m' ∨
  (pool p = 63 ∧ mOk m ∧ InR s2 ∧ p + 40 ≤ 12342 ∧ (48 ≤ pool (p + 1) ∧ pool (p + 1) ≤ 55) ∧ ∃ n k, digR pool (p + 3) n ∧ (p + 3 ≤ k ∧ k ≤ p + 30) ∧ pool k = 58 ∧ (∀ j, p + 3 ≤ j → j < k → ¬ pool j = 58) ∧ InR (numAt pool n (p + 3)) ∧
    ((m (10 + pool (p + 1) - 48).toNat < numAt pool n (p + 3) ∧ stpR pool cl m (k + 1) s2 f m') ∨ (¬ m (10 + pool (p + 1) - 48).toNat < numAt pool n (p + 3) ∧ f = 0 ∧ m' = m)))
/-- the steps of a thing's closer, from a place to its end -/
def loopR (pool : Nat → Int) (dr : (Nat → Int) → Nat → Int → Int → (Nat → Int) → Prop) (t E : Nat) : Nat → (Nat → Int) → Nat → Int → (Nat → Int) → Prop
  | 0, m, p, f, m' => E ≤ p ∧ f = 0 ∧ m' = m
  | n + 1, m, p, f, m' => (E ≤ p ∧ f = 0 ∧ m' = m) ∨ (p < E ∧ ∃ f1 m1, dr m p (m (259 + 14 * t)) f1 m1 ∧ InR f1 ∧ ((¬ f1 = 0 ∧ f = f1 ∧ m' = m1) ∨ (f1 = 0 ∧ loopR pool dr t E n m1 (behL pool (E - p) p 0 + 1) f m')))
def closedM (m : Nat → Int) (t : Nat) : Nat → Int := updI (updI (updI (updI m (258 + 14 * t) 2) (264 + 14 * t) (m 2)) (1518 + m 2).toNat t) 2 (m 2 + 1)
/-- a thing is closed; closers that close others go at most so deep -/
def closesR (pool : Nat → Int) (sink : Int) : Nat → (Nat → Int) → Nat → (Nat → Int) → Prop
  | 0, _, _, _ => False
  | n + 1, m, t, m' => mOk m ∧ t ≤ 89 ∧ ((¬ m (258 + 14 * t) = 0 ∧ m' = m) ∨ (m (258 + 14 * t) = 0 ∧ ∃ (p E k : Nat) (f : Int) (m2 : Nat → Int), m (262 + 14 * t) = p ∧ m (263 + 14 * t) = E ∧ p ≤ 12342 ∧ E ≤ 12342 ∧ loopR pool (doesR pool (closesR pool sink n)) t E k (updI m (258 + 14 * t) 1) p f m2 ∧ mOk m2 ∧ InR f ∧ m2 2 ≤ 89 ∧ m2 4 ≤ 119 ∧ m2 5 ≤ 119 ∧ m' = closedM (if f = 0 then m2 else gathersM m2 sink f t) t))
set_option maxHeartbeats 4000000 in
set_option maxRecDepth 100000 in
theorem m_step {G : mG} {l : Launch} {D : Nat} (hD : 5 ≤ D) {x s : Nat} {f4 f6 f8 f9 f10 f11 f12 f13 f14 f16 f18 : Int} {m kp was pool tape pln pap rwd rw : Nat → Int} {cl : (Nat → Int) → Nat → (Nat → Int) → Prop} (hPo : ∀ q, InR (pool q)) (hcl : ∀ (m1 m2 : Nat → Int) (t : Nat) (h : mH), isM h x (mFs x f4 f6 f8 f9 f10 f11 f12 f13 f14 f16 f18 s) m1 kp was pool tape pln pap rwd rw → cl m1 t m2 → RUNM G l D mX11_closes [.ref x, .int (J (t : Int))] h (fun v h' => v = none ∧ isM h' x (mFs x f4 f6 f8 f9 f10 f11 f12 f13 f14 f16 f18 s) m2 kp was pool tape pln pap rwd rw ∧ Same (mBlk x) h h')) {h : mH} (hB : isM h x (mFs x f4 f6 f8 f9 f10 f11 f12 f13 f14 f16 f18 s) m kp was pool tape pln pap rwd rw) {p : Nat} {s2 f : Int} {m' : Nat → Int} (hR : stpR pool cl m p s2 f m') : RUNM G l (D + 1) mX11_does [.ref x, .int (J (p : Int)), .int (J s2)] h (fun v h' => v = some (.int (J f)) ∧ isM h' x (mFs x f4 f6 f8 f9 f10 f11 f12 f13 f14 f16 f18 s) m' kp was pool tape pln pap rwd rw ∧ Same (mBlk x) h h') := by
  obtain ⟨hok, hs, hp, hR⟩ := hR
  have hN : m 1 = ((m 1).toNat : Int) := by have := hok.2.2.1; omega
  rcases hR with ⟨hk, hc, rfl, n, hd, rfl⟩ | ⟨hk, rfl, n, hd, rfl⟩ | ⟨hk, n, hpn, hst, rfl, rfl⟩ | ⟨hk, hR⟩ | ⟨hk, n, hd, hnr, hR⟩ | ⟨hk, hc, rfl, rfl⟩ | ⟨hk, rfl, rfl⟩
  · exact (d_plus 0 hB hp hPo hok hs hk hc hd.1 hd.2).deeper (by omega)
  · exact ((d_bang 0 hB hp hPo hok hs hk hd.1 hd.2).deeper (by omega)).mono (fun v h' q => ⟨q.1, q.2 ▸ hB, q.2 ▸ Same.refl⟩)
  · exact (d_take 0 hB hp hPo hok hs hk hN rfl hpn hst).deeper (by omega)
  · rcases hR with ⟨ht, rfl, rfl⟩ | ⟨ht, rfl, hcR⟩
    · exact ((d_closeN 0 hB hp hPo hok hs hk hN rfl ht).deeper (by omega)).mono (fun v h' q => ⟨q.1, q.2 ▸ hB, q.2 ▸ Same.refl⟩)
    · refine d_closeY 0 hB hp hPo hok hs hk hN rfl ht ?_ (by omega)
      have y := hcl m m' (hbL m pool (p + 1) (neL pool 7 (p + 1)) (m 1).toNat 0).toNat h hB hcR
      rw [show (((hbL m pool (p + 1) (neL pool 7 (p + 1)) (m 1).toNat 0).toNat : Nat) : Int) = (hbL m pool (p + 1) (neL pool 7 (p + 1)) (m 1).toNat 0) by omega] at y
      exact y
  · rcases hR with ⟨ht, rfl, rfl⟩ | ⟨ht, ho, rfl, rfl⟩ | ⟨ht, ho, rfl, rfl⟩
    · exact ((d_moveN 0 hB hp hPo hok hs hk hN rfl hd.1 hd.2 hnr ht).deeper (by omega)).mono (fun v h' q => ⟨q.1, q.2 ▸ hB, q.2 ▸ Same.refl⟩)
    · exact ((d_moveO 0 hB hp hPo hok hs hk hN rfl hd.1 hd.2 hnr ht ho).deeper (by omega)).mono (fun v h' q => ⟨q.1, q.2 ▸ hB, q.2 ▸ Same.refl⟩)
    · exact (d_moveY 0 hB hp hPo hok hs hk hN rfl hd.1 hd.2 hnr ht ho).deeper (by omega)
  · exact (d_cancel 0 hB hp hPo hok hs hk hc).deeper (by omega)
  · exact ((d_nop 0 hB hp hPo hok hs hk).deeper (by omega)).mono (fun v h' q => ⟨q.1, q.2 ▸ hB, q.2 ▸ Same.refl⟩)
set_option maxHeartbeats 4000000 in
set_option maxRecDepth 100000 in
theorem m_does {G : mG} {l : Launch} {D : Nat} (hD : 5 ≤ D) {x s : Nat} {f4 f6 f8 f9 f10 f11 f12 f13 f14 f16 f18 : Int} {m kp was pool tape pln pap rwd rw : Nat → Int} {cl : (Nat → Int) → Nat → (Nat → Int) → Prop} (hPo : ∀ q, InR (pool q)) (hcl : ∀ (m1 m2 : Nat → Int) (t : Nat) (h : mH), isM h x (mFs x f4 f6 f8 f9 f10 f11 f12 f13 f14 f16 f18 s) m1 kp was pool tape pln pap rwd rw → cl m1 t m2 → RUNM G l D mX11_closes [.ref x, .int (J (t : Int))] h (fun v h' => v = none ∧ isM h' x (mFs x f4 f6 f8 f9 f10 f11 f12 f13 f14 f16 f18 s) m2 kp was pool tape pln pap rwd rw ∧ Same (mBlk x) h h')) {h : mH} (hB : isM h x (mFs x f4 f6 f8 f9 f10 f11 f12 f13 f14 f16 f18 s) m kp was pool tape pln pap rwd rw) {p : Nat} {s2 f : Int} {m' : Nat → Int} (hR : doesR pool cl m p s2 f m') : RUNM G l (D + 2) mX11_does [.ref x, .int (J (p : Int)), .int (J s2)] h (fun v h' => v = some (.int (J f)) ∧ isM h' x (mFs x f4 f6 f8 f9 f10 f11 f12 f13 f14 f16 f18 s) m' kp was pool tape pln pap rwd rw ∧ Same (mBlk x) h h') := by
  rcases hR with hR | ⟨hk, hok, hs, hp, hc, n, k, hd, hk3, hcol, hnc, hnr, hR⟩
  · exact (m_step hD hPo hcl hB hR).deeper (by omega)
  · rcases hR with ⟨hcd, hR⟩ | ⟨hcd, rfl, rfl⟩
    · have y := m_step hD hPo hcl hB hR
      rw [show ((k + 1 : Nat) : Int) = (k : Int) + 1 by omega] at y
      exact (d_ifY 0 hB hp hPo hok hs hk hc hd.1 hd.2 hk3.1 hk3.2 hcol hnc hcd hnr (Q := (fun v h' => v = some (.int (J f)) ∧ isM h' x (mFs x f4 f6 f8 f9 f10 f11 f12 f13 f14 f16 f18 s) m' kp was pool tape pln pap rwd rw ∧ Same (mBlk x) h h')) (by omega) (y.mono (fun v h' q => ⟨⟨_, q.1⟩, q⟩)))
    · exact ((d_ifN 0 hB hp hPo hok hs hk hc hd.1 hd.2 hk3.1 hk3.2 hcol hnc hcd hnr).deeper (by omega)).mono (fun v h' q => ⟨q.1, q.2 ▸ hB, q.2 ▸ Same.refl⟩)

section mg_a6
section SH2
variable {G : mG} {l : Launch} {r : Nat} {b : Int} {pool : Nat → Int} {S : Nat → Option mO} {h0 : mH} {n : Nat}
theorem simS_all (hS : ∀ a o, S a = some o → hGet h0 a = some o) (hSr : ∀ a, ¬ S a = none → ¬ rBlk r a) (hb : -1 ≤ b ∧ b ≤ 9) (hPo : poolOk pool) : ∀ n, SXG (shS G l r b pool S h0 n) pool n
  | 0 => fun m s B h hsc hnc hB hn hs hc => by
    have := h.1.2.1
    omega
  | n + 1 => fun m s B h hsc hnc hB hn hs hc => by
    obtain ⟨m', a, a2, a3, a4, a5⟩ := shuts_exg (simT_all (G := G) (l := l) hS hSr hb hPo) (simS_all hS hSr hb hPo n) m s B h hsc hnc hB hn hs hc
    exact ⟨m', ⟨shB_mo (cl := clT G l r b pool S h0) (sh := shS G l r b pool S h0 n) (fun _ _ _ x => x.1.1) (fun _ _ _ x => x.1) a, sim_shuts hS hSr hb hPo h hsc hnc hc a, ⟨B, a2⟩, a3, a4⟩, a2, a3, a4, a5⟩
end SH2
end mg_a6
section mg_a7
/-! ===== the tasks of both sides ===== -/
def tkA (m pool c : Nat → Int) (S : Nat → Option mO) (g : Nat → Option Nat) (q : Nat) : Prop :=
  c (488 + 9 * q) = m (1615 + 72 * q) ∧ c (490 + 9 * q) = m (1609 + 72 * q) ∧ c (491 + 9 * q) = m (1612 + 72 * q) ∧ c (492 + 9 * q) = m (1613 + 72 * q) ∧ c (493 + 9 * q) = m (1608 + 72 * q) ∧ c (495 + 9 * q) = m (1618 + 72 * q) ∧
  ∃ b hi n P E : Nat, m (1616 + 72 * q) = P ∧ m (1617 + 72 * q) = E ∧ g (180 + 2 * q) = some b ∧ stL S pool n true 0 b hi P E
/-- where a task goes on -/
def rsT (pool : Nat → Int) (S : Nat → Option mO) (v : Option Nat) (o p E : Nat) : Prop := (E ≤ p ∧ v = none) ∨ (p < E ∧ ∃ b hi n : Nat, v = some b ∧ stL S pool n true o b hi p E)
def tkC (m pool c : Nat → Int) (S : Nat → Option mO) (g : Nat → Option Nat) (q : Nat) : Prop :=
  m (1610 + 72 * q) = 0 → m (1618 + 72 * q) = 0 ∧ ∃ o p E : Nat, m (1619 + 72 * q) = (o : Int) + 1 ∧ m (1617 + 72 * q) = E ∧ m (1611 + 72 * q) = p ∧ c (494 + 9 * q) = m (1620 + 72 * q + o) ∧ rsT pool S (g (181 + 2 * q)) o p E
def TKR (m pool c : Nat → Int) (S : Nat → Option mO) (g : Nat → Option Nat) (t0 : Nat) : Prop := c 3 = m 7 ∧ ∀ q : Nat, (q : Int) < m 3 → tkA m pool c S g q ∧ (¬ q = t0 → tkC m pool c S g q)
section TKs
variable {m m' pool c c' : Nat → Int} {S : Nat → Option mO} {g g' : Nat → Option Nat} {t0 : Nat}
theorem tkA_c {q : Nat} (h : tkA m pool c S g q) (hm : ∀ k, 1608 + 72 * q ≤ k → k < 1619 + 72 * q → ¬ k = 1614 + 72 * q → ¬ k = 1610 + 72 * q → ¬ k = 1611 + 72 * q → m' k = m k) (hc : ∀ k, 488 + 9 * q ≤ k → k < 496 + 9 * q → ¬ k = 494 + 9 * q → ¬ k = 489 + 9 * q → c' k = c k) (hg : g' (180 + 2 * q) = g (180 + 2 * q)) : tkA m' pool c' S g' q := by
  obtain ⟨a1, a2, a3, a4, a5, a6, b, hi, n, P, E, e1, e2, e3, e4⟩ := h
  refine ⟨?_, ?_, ?_, ?_, ?_, ?_, b, hi, n, P, E, ?_, ?_, ?_, e4⟩
  · rw [hc _ (by omega) (by omega) (by omega) (by omega), hm _ (by omega) (by omega) (by omega) (by omega) (by omega)]; exact a1
  · rw [hc _ (by omega) (by omega) (by omega) (by omega), hm _ (by omega) (by omega) (by omega) (by omega) (by omega)]; exact a2
  · rw [hc _ (by omega) (by omega) (by omega) (by omega), hm _ (by omega) (by omega) (by omega) (by omega) (by omega)]; exact a3
  · rw [hc _ (by omega) (by omega) (by omega) (by omega), hm _ (by omega) (by omega) (by omega) (by omega) (by omega)]; exact a4
  · rw [hc _ (by omega) (by omega) (by omega) (by omega), hm _ (by omega) (by omega) (by omega) (by omega) (by omega)]; exact a5
  · rw [hc _ (by omega) (by omega) (by omega) (by omega), hm _ (by omega) (by omega) (by omega) (by omega) (by omega)]; exact a6
  · rw [hm _ (by omega) (by omega) (by omega) (by omega) (by omega)]; exact e1
  · rw [hm _ (by omega) (by omega) (by omega) (by omega) (by omega)]; exact e2
  · rw [hg]; exact e3
theorem tkC_c {q : Nat} (h : tkC m pool c S g q) (hm : ∀ k, 1608 + 72 * q ≤ k → k < 1680 + 72 * q → ¬ k = 1614 + 72 * q → m' k = m k) (hO : ∃ n : Nat, m (1619 + 72 * q) = n ∧ n ≤ 60) (hc : c' (494 + 9 * q) = c (494 + 9 * q)) (hg : g' (181 + 2 * q) = g (181 + 2 * q)) : tkC m' pool c' S g' q := by
  intro z
  rw [hm _ (by omega) (by omega) (by omega)] at z
  obtain ⟨z0, o, p, E, e1, e2, e3, e4, e5⟩ := h z
  obtain ⟨n, n1, n2⟩ := hO
  refine ⟨by rw [hm _ (by omega) (by omega) (by omega)]; exact z0, o, p, E, ?_, ?_, ?_, ?_, ?_⟩
  · rw [hm _ (by omega) (by omega) (by omega)]; exact e1
  · rw [hm _ (by omega) (by omega) (by omega)]; exact e2
  · rw [hm _ (by omega) (by omega) (by omega)]; exact e3
  · rw [hc, hm _ (by omega) (by omega) (by omega)]; exact e4
  · rw [hg]; exact e5
/-- closings and shuttings touch no task -/
theorem TKR.kp (h : TKR m pool c S g t0) (k3 : m 3 ≤ 10) (hn : ∀ q : Nat, (q : Int) < m 3 → ∃ n : Nat, m (1619 + 72 * q) = n ∧ n ≤ 60) (k : KPk c c' g g') (h3 : m' 3 = m 3) (h7 : m' 7 = m 7) (hm : ∀ q, 1608 ≤ q → q < 2328 → (∀ t : Nat, q ≠ 1614 + 72 * t) → m' q = m q) : TKR m' pool c' S g' t0 := by
  obtain ⟨a, b⟩ := h
  obtain ⟨k1, k2, k30, k4⟩ := k
  refine ⟨by rw [k30, h7]; exact a, fun q hq => ?_⟩
  rw [h3] at hq
  obtain ⟨b1, b2⟩ := b q hq
  exact ⟨tkA_c b1 (fun j x y z _ _ => hm j (by omega) (by omega) (fun t w => by omega)) (fun j x y z _ => k2 j (by omega) (fun t w => by omega)) (k1 _ (by omega)), fun z => tkC_c (b2 z) (fun j x y w => hm j (by omega) (by omega) (fun t w => by omega)) (hn q hq) (k2 _ (by omega) (fun t w => by omega)) (k1 _ (by omega))⟩
end TKs
/-! which task has the next turn -/
theorem ah_tr {m : Nat → Int} {a b c : Nat} (h : aheadP m a b) (k : aheadP m b c) : aheadP m a c := by unfold aheadP at h k ⊢; omega
theorem ah_to {m : Nat → Int} {a b : Nat} (h : ¬ a = b) (k : ¬ aheadP m a b) : aheadP m b a := by unfold aheadP at k ⊢; omega
end mg_a7

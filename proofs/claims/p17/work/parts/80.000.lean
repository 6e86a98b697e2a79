/-! ===== turns come to their end ===== -/
def NS (m : Nat → Int) : Prop := ∀ c : Nat, (c : Int) < m 0 → ¬ m (18 + 4 * c) = 1
theorem Es.ns {m m' : Nat → Int} (h : Es m m') (k : NS m) (h0 : m 0 ≤ 60) : NS m' := by
  intro c hc
  rw [h.1 0 (Or.inl rfl)] at hc
  rcases h.2.1 c (by omega) with w | w
  · rw [w]; exact k c hc
  · rw [w.2.1]; decide
def stkOk (m : Nat → Int) (t n : Nat) : Prop := (1 ≤ n ∧ n ≤ 60) ∧ (∀ k : Nat, k < n → (k : Int) + 1 ≤ m (1620 + 72 * t + k) ∧ m (1620 + 72 * t + k) < m 0) ∧ ∀ k : Nat, k + 1 < n → m (19 + 4 * (m (1620 + 72 * t + (k + 1))).toNat) = m (1620 + 72 * t + k)
def tkB (m pool : Nat → Int) (t : Nat) : Prop :=
  (-99 ≤ m (1609 + 72 * t) ∧ m (1609 + 72 * t) ≤ 99) ∧ (0 ≤ m (1610 + 72 * t) ∧ m (1610 + 72 * t) ≤ 3) ∧ (m (1614 + 72 * t) = 0 ∨ m (1614 + 72 * t) = 1) ∧
  ((0 ≤ m (1612 + 72 * t) ∧ m (1612 + 72 * t) ≤ m 7) ∧ (0 ≤ m (1613 + 72 * t) ∧ m (1613 + 72 * t) ≤ m 7)) ∧ (0 ≤ m (1615 + 72 * t) ∧ m (1615 + 72 * t) ≤ 300) ∧ m (1608 + 72 * t) = m (1620 + 72 * t) ∧
  (∃ n : Nat, m (1619 + 72 * t) = n ∧ stkOk m t n) ∧ (∃ p : Nat, m (1611 + 72 * t) = p ∧ p ≤ 12343) ∧ ∃ P E : Nat, m (1616 + 72 * t) = P ∧ m (1617 + 72 * t) = E ∧ (E : Int) < m 8 ∧ P < E ∧ E ≤ P + 120 ∧ ∃ k, stsT pool k 0 P E
def rdOk (m pool : Nat → Int) (t : Nat) : Prop := m (1610 + 72 * t) = 0 → ∃ o P E p : Nat, m (1619 + 72 * t) = (o : Int) + 1 ∧ m (1616 + 72 * t) = P ∧ m (1617 + 72 * t) = E ∧ m (1611 + 72 * t) = p ∧ P ≤ p ∧ m (1615 + 72 * t) ≤ (p : Int) - P ∧ ∃ k, stsT pool k o p E
/-- the tasks, but for what the one at work goes on from -/
def TkM (m pool : Nat → Int) (t0 : Nat) : Prop := 0 ≤ m 7 ∧ ∀ t : Nat, (t : Int) < m 3 → tkB m pool t ∧ (¬ t = t0 → rdOk m pool t)
theorem TkM.weak {m pool : Nat → Int} {t0 : Nat} (h : TkM m pool 99) (h3 : m 3 ≤ 10) : TkM m pool t0 :=
  ⟨h.1, fun t ht => ⟨(h.2 t ht).1, fun _ => (h.2 t ht).2 (by omega)⟩⟩
/-- nothing of a task was touched but asking -/
def sameTk (m m' : Nat → Int) (t : Nat) : Prop := (∀ q, 1608 + 72 * t ≤ q → q < 1680 + 72 * t → ¬ q = 1614 + 72 * t → m' q = m q) ∧ (m' (1614 + 72 * t) = m (1614 + 72 * t) ∨ m' (1614 + 72 * t) = 1)

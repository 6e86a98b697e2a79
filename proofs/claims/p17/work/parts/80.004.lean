section TU
variable {pool : Nat → Int} {sink : Int}
/-- cells of the task at work that its steps leave alone -/
def keepT (m m' : Nat → Int) (t : Nat) : Prop := m' 3 = m 3 ∧ m' 7 = m 7 ∧ (m' 8 = m 8 ∧ m 1 ≤ m' 1) ∧ ∀ q, 1608 + 72 * t ≤ q → q < 1619 + 72 * t → ¬ q = 1614 + 72 * t → m' q = m q
theorem Es.kt {m m' : Nat → Int} (h : Es m m') {t : Nat} (ht : t ≤ 9) : keepT m m' t := ⟨h.1 3 (Or.inr (Or.inl rfl)), h.1 7 (Or.inr (Or.inr (Or.inl rfl))), ⟨h.1 8 (Or.inr (Or.inr (Or.inr (Or.inl rfl)))), h.2.2.1.1⟩, fun q a b c => (h.tk ht).1 q a (by omega) c⟩
theorem TkM.step {m m' : Nat → Int} {t : Nat} (h : TkM m pool t) (h3 : m' 3 = m 3) (h0 : m' 0 = m 0) (h60 : m 0 ≤ 60) (h10 : m 3 ≤ 10) (h7 : m 7 ≤ m' 7) (h8 : m 8 ≤ m' 8) (hp : ∀ c : Nat, 1 ≤ c → (c : Int) < m 0 → m' (19 + 4 * c) = m (19 + 4 * c)) (hs : ∀ u : Nat, ¬ u = t → u ≤ 9 → sameTk m m' u) (ht : (t : Int) < m 3 → tkB m' pool t) : TkM m' pool t := by
  have q := h.1
  refine ⟨by omega, fun u hu => ?_⟩
  by_cases c : u = t
  · subst c; exact ⟨ht (by omega), fun z => absurd rfl z⟩
  · obtain ⟨d1, d2⟩ := h.2 u (by omega)
    have s := hs u c (by omega)
    exact ⟨d1.same s (by omega) h60 h7 h8 hp, fun z => (d2 z).same s⟩
/-- all that holds when a turn is through -/
def Aft (m m' pool : Nat → Int) (B : Int) : Prop := Mid m' pool B ∧ TkM m' pool 99 ∧ m' 3 = m 3 ∧ m' 7 = m 7 ∧ (m' 8 = m 8 ∧ m 1 ≤ m' 1)
end TU

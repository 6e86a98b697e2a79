section mg_9x
section CHG
variable {x : Int} {m pool c : Nat → Int} {S : Nat → Option mO} {C : Nat → Nat → Int} {nm : Nat → Int64} {g : Nat → Option Nat}
end CHG
end mg_9x
section mg_9y
/-! ===== what happens on both sides keeps the relation: what comes, what is moved, what ends ===== -/
theorem cnt_mono {p : Nat → Bool} {a : Nat} : ∀ {b : Nat}, a ≤ b → cnt p a ≤ cnt p b
  | 0, h => by
    have : a = 0 := by omega
    subst this; exact Int.le_refl _
  | b + 1, h => by
    by_cases c : a = b + 1
    · subst c; exact Int.le_refl _
    · have := cnt_mono (p := p) (a := a) (b := b) (by omega)
      rw [cnt_S]
      split <;> omega
section CHG2
variable {x : Int} {m pool c : Nat → Int} {S : Nat → Option mO} {C : Nat → Nat → Int} {nm : Nat → Int64} {g : Nat → Option Nat}
theorem nodP_t {m : Nat → Int} {t : Nat} (h : (t : Int) < m 1) (h1 : m 1 ≤ 90) : nodP m (t : Int) ↔ ¬ m (258 + 14 * t) = 2 := by
  constructor
  · rintro (⟨u, a, b, c⟩ | ⟨u, a, d, b, c⟩)
    · have : u = t := by omega
      subst this; exact c
    · exfalso; omega
  · intro k; exact Or.inl ⟨t, rfl, h, k⟩
theorem nodP_s {m : Nat → Int} {a : Nat} (h1 : m 1 ≤ 90) : nodP m (100 + (a : Int)) ↔ 1 ≤ a ∧ (a : Int) < m 0 ∧ ¬ m (18 + 4 * a) = 2 := by
  constructor
  · rintro (⟨u, k, b, c⟩ | ⟨u, k, d, b, c⟩)
    · exfalso; omega
    · have : u = a := by omega
      subst this; exact ⟨d, b, c⟩
  · rintro ⟨d, b, k⟩; exact Or.inr ⟨a, rfl, d, b, k⟩
end CHG2
end mg_9y

section mg_84
/-! ===== every PLAN comes to its end ===== -/
noncomputable def bP (P : Prop) : Bool := @decide P (Classical.propDecidable P)
theorem bP_t {P : Prop} : bP P = true ↔ P := by unfold bP; simp
theorem cnt_add {p1 p2 p : Nat → Bool} : ∀ n : Nat, (∀ t, t < n → p1 t = true → p t = true) → (∀ t, t < n → p2 t = true → p t = true) → (∀ t, t < n → p1 t = true → p2 t = true → False) → cnt p1 n + cnt p2 n ≤ cnt p n
  | 0, _, _, _ => Int.le_refl _
  | n + 1, h1, h2, h3 => by
    have ih := cnt_add n (fun t ht => h1 t (by omega)) (fun t ht => h2 t (by omega)) (fun t ht => h3 t (by omega))
    rw [cnt_S, cnt_S, cnt_S]
    cases a : p1 n <;> cases b : p2 n
    · simp only [Bool.false_eq_true, if_false]
      split <;> omega
    · have := h2 n (by omega) b
      rw [this]
      simp only [Bool.false_eq_true, if_false, if_true]
      omega
    · have := h1 n (by omega) a
      rw [this]
      simp only [Bool.false_eq_true, if_false, if_true]
      omega
    · exact (h3 n (by omega) a b).elim
theorem cnt_le {p1 p : Nat → Bool} (n : Nat) (h1 : ∀ t, t < n → p1 t = true → p t = true) : cnt p1 n ≤ cnt p n := by
  have := cnt_add (p1 := p1) (p2 := fun _ => false) (p := p) n h1 (fun t _ z => by cases z) (fun t _ _ z => by cases z)
  have z := (cnt_r (fun _ => false) n).1
  omega
/-- a scope's parent, so many times over -/
def itP (m : Nat → Int) : Nat → Nat → Option Nat
  | 0, a => some a
  | k + 1, a => if 0 ≤ m (19 + 4 * a) then itP m k (m (19 + 4 * a)).toNat else none
theorem itP_S {m : Nat → Int} {k a : Nat} : itP m (k + 1) a = if 0 ≤ m (19 + 4 * a) then itP m k (m (19 + 4 * a)).toNat else none := rfl
section PL
variable {m : Nat → Int} {N C : Nat}
def parI (m : Nat → Int) (C : Nat) : Prop := ∀ c : Nat, c < C → m (19 + 4 * c) < c
theorem itP_le (h : parI m C) : ∀ (k a c : Nat), a < C → itP m k a = some c → c ≤ a ∧ (1 ≤ k → c < a)
  | 0, a, c, ha, e => by
    have : a = c := by simpa [itP] using e
    omega
  | k + 1, a, c, ha, e => by
    unfold itP at e
    split at e
    · have hp := h a ha
      have := itP_le h k _ c (by omega) e
      omega
    · cases e
theorem itP_add : ∀ (i j a : Nat) (b : Nat), itP m i a = some b → itP m (i + j) a = itP m j b
  | 0, j, a, b, e => by
    have : a = b := by simpa [itP] using e
    subst this
    rw [Nat.zero_add]
  | i + 1, j, a, b, e => by
    rw [show i + 1 + j = (i + j) + 1 by omega, itP_S]
    rw [itP_S] at e
    split at e
    · rename_i g
      rw [if_pos g]
      exact itP_add i j _ b e
    · cases e
/-- a thing stands in an entry: it is it, or it is held in or below that scope -/
def inE (m : Nat → Int) (t e : Nat) : Prop := (e < 100 ∧ t = e) ∨ (100 ≤ e ∧ 0 ≤ m (259 + 14 * t) ∧ ∃ i, itP m i (m (259 + 14 * t)).toNat = some (e - 100))
theorem entP_c {s : Nat} {e : Nat} (h : entryP m N C s e) : (e < 100 ∧ e < N ∧ m (258 + 14 * e) = 0 ∧ m (259 + 14 * e) = s) ∨ (100 < e ∧ e < C + 100 ∧ m (19 + 4 * (e - 100)) = s) := by
  unfold entryP at h
  split at h
  · exact Or.inl ⟨by assumption, h⟩
  · exact Or.inr ⟨h.2.1, h.1, h.2.2.2⟩
end PL
end mg_84

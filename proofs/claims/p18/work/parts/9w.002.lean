section mg_9w
section CRc
variable {x : Int} {m m' pool pool' c c' : Nat → Int} {S S' : Nat → Option mO} {C C' : Nat → Nat → Int} {nm : Nat → Int64} {g g' : Nat → Option Nat}
end CRc
end mg_9w
section mg_9x
/-! ===== what happens on both sides keeps the relation ===== -/
section ORD
/-- the nodes of P stand in a row by their stamps -/
def ordE (P : Int → Prop) (st : Int → Int) (top : Int) (f : Nat → Int) (Z : Nat) : Prop := (∀ j, j < Z → P (f j)) ∧ (∀ j k, j < k → k < Z → st (f j) < st (f k)) ∧ (∀ e, P e → ∃ j, j < Z ∧ f j = e) ∧ (∀ e, P e → st e ≤ top)
variable {P P' : Int → Prop} {st st' : Int → Int} {top top' : Int} {f : Nat → Int} {Z : Nat}
theorem ordE_i (h : ordE P st top f Z) {j k : Nat} (hj : j < Z) (hk : k < Z) (e : f j = f k) : j = k := by
  by_cases a : j < k
  · have := h.2.1 j k a hk; rw [e] at this; omega
  · by_cases b : k < j
    · have := h.2.1 k j b hj; rw [e] at this; omega
    · omega
theorem ordE_c (h : ordE P st top f Z) (hP : ∀ e, P' e ↔ P e) (hs : ∀ e, P e → st' e = st e) (ht : top ≤ top') : ordE P' st' top' f Z := by
  obtain ⟨a, b, c, d⟩ := h
  refine ⟨fun j hj => (hP _).mpr (a j hj), fun j k x y => ?_, fun e he => c e ((hP e).mp he), fun e he => ?_⟩
  · rw [hs _ (a j (by omega)), hs _ (a k y)]; exact b j k x y
  · have := (hP e).mp he
    rw [hs e this]; have := d e this; omega
theorem ordE_a (h : ordE P st top f Z) {e1 : Int} (hs : ∀ e, P e → st' e = st e) (h1 : top < st' e1) (h2 : st' e1 ≤ top') : ordE (fun e => P e ∨ e = e1) st' top' (updI f Z e1) (Z + 1) := by
  obtain ⟨a, b, c, d⟩ := h
  have lo : ∀ j, j < Z → updI f Z e1 j = f j := fun j hj => updI_n (by omega)
  refine ⟨fun j hj => ?_, fun j k x y => ?_, fun e he => ?_, fun e he => ?_⟩
  · by_cases q : j = Z
    · subst q; rw [updI_s]; exact Or.inr rfl
    · rw [lo j (by omega)]; exact Or.inl (a j (by omega))
  · rw [lo j (by omega)]
    by_cases q : k = Z
    · subst q
      rw [updI_s, hs _ (a j (by omega))]
      have := d _ (a j (by omega)); omega
    · rw [lo k (by omega), hs _ (a j (by omega)), hs _ (a k (by omega))]; exact b j k x (by omega)
  · rcases he with he | rfl
    · obtain ⟨j, j1, j2⟩ := c e he
      exact ⟨j, by omega, by rw [lo j j1]; exact j2⟩
    · exact ⟨Z, by omega, updI_s⟩
  · rcases he with he | rfl
    · rw [hs e he]; have := d e he; omega
    · exact h2
theorem dr_lo {v : Int} : ∀ n, (∀ j, j < n → ¬ f j = v) → cnt (notB v f) n = n ∧ ∀ q, drA v f n q = f q
  | 0, _ => ⟨rfl, fun _ => rfl⟩
  | n + 1, h => by
    obtain ⟨a, b⟩ := dr_lo n (fun j hj => h j (by omega))
    have hn := h n (by omega)
    have e : notB v f n = true := decide_eq_true hn
    constructor
    · rw [cnt_S, e, a, if_pos rfl]; omega
    · intro q
      show (if f n = v then drA v f n else updI (drA v f n) (cnt (notB v f) n).toNat (f n)) q = f q
      rw [if_neg hn, a]
      by_cases c : q = n
      · subst c; rw [Int.toNat_natCast, updI_s]
      · rw [Int.toNat_natCast, updI_n c]; exact b q
end ORD
end mg_9x

theorem rdOk.same {m m' pool : Nat → Int} {t : Nat} (h : rdOk m pool t) (hs : sameTk m m' t) : rdOk m' pool t := by
  obtain ⟨s1, s2⟩ := hs
  unfold rdOk at h ⊢
  rw [s1 (1610 + 72 * t) (by omega) (by omega) (by omega), s1 (1615 + 72 * t) (by omega) (by omega) (by omega), s1 (1619 + 72 * t) (by omega) (by omega) (by omega), s1 (1611 + 72 * t) (by omega) (by omega) (by omega), s1 (1616 + 72 * t) (by omega) (by omega) (by omega), s1 (1617 + 72 * t) (by omega) (by omega) (by omega)]
  exact h
theorem Es.tk {m m' : Nat → Int} (h : Es m m') {t : Nat} (ht : t ≤ 9) : sameTk m m' t :=
  ⟨fun q a b c => h.1 q (Or.inr (Or.inr (Or.inr (Or.inr (Or.inr ⟨by omega, by omega, fun u => by omega⟩))))), h.2.2.2.2 t ht⟩
theorem TkM.es {m m' pool : Nat → Int} {t0 : Nat} (h : TkM m pool t0) (k : Es m m') (h3 : m 3 ≤ 10) (h60 : m 0 ≤ 60) : TkM m' pool t0 := by
  have e0 : m' 0 = m 0 := k.1 0 (Or.inl rfl)
  have e3 : m' 3 = m 3 := k.1 3 (Or.inr (Or.inl rfl))
  have e7 : m' 7 = m 7 := k.1 7 (Or.inr (Or.inr (Or.inl rfl)))
  have e8 : m' 8 = m 8 := k.1 8 (Or.inr (Or.inr (Or.inr (Or.inl rfl))))
  refine ⟨by rw [e7]; exact h.1, fun t ht => ?_⟩
  rw [e3] at ht
  obtain ⟨a, b⟩ := h.2 t ht
  have s := k.tk (t := t) (by omega)
  exact ⟨a.same s (by omega) h60 (by omega) (by omega) (fun c h1 h2 => k.1 _ (Or.inr (Or.inr (Or.inr (Or.inr (Or.inl ⟨by omega, by omega, fun u => by omega⟩)))))), fun z => (b z).same s⟩
theorem ScI.out {m : Nat → Int} (h : ScI m) {k : Nat} {v : Int} (hk : k = 7 ∨ 258 ≤ k) (h0 : m 0 ≤ 60) : ScI (updI m k v) := by
  have e : ∀ q, ¬ q = 7 → q < 258 → updI m k v q = m q := fun q a b => updI_n (by omega)
  obtain ⟨h1, h2, h3⟩ := h
  refine ⟨by rw [e _ (by omega) (by omega)]; exact h1, by rw [e _ (by omega) (by omega)]; exact h2, fun c hc => ?_⟩
  rw [e 0 (by omega) (by omega)] at hc
  obtain ⟨a, b⟩ := h3 c hc
  rw [e (18 + 4 * c) (by omega) (by omega), e (19 + 4 * c) (by omega) (by omega), e (20 + 4 * c) (by omega) (by omega), e 6 (by omega) (by omega)]
  refine ⟨a, fun g => ?_⟩
  obtain ⟨b1, b2, b3⟩ := b g
  rw [e (18 + 4 * (m (19 + 4 * c)).toNat) (by omega) (by omega)]
  exact ⟨b1, b2, b3⟩
theorem NC.out {m : Nat → Int} (h : NC m) {k : Nat} {v : Int} (hk : k = 7 ∨ 1518 ≤ k) (h1 : m 1 ≤ 90) : NC (updI m k v) := by
  intro t ht
  rw [updI_n (by omega)] at ht
  rw [updI_n (by omega)]; exact h t ht
theorem NS.out {m : Nat → Int} (h : NS m) {k : Nat} {v : Int} (hk : k = 7 ∨ 258 ≤ k) (h0 : m 0 ≤ 60) : NS (updI m k v) := by
  intro t ht
  rw [updI_n (by omega)] at ht
  rw [updI_n (by omega)]; exact h t ht
/-- all that is kept while calls and turns go on -/
def Mid (m pool : Nat → Int) (B : Int) : Prop := Inv m pool B ∧ ScI m ∧ NC m ∧ NS m
theorem Mid.out {m pool : Nat → Int} {B : Int} (h : Mid m pool B) {k : Nat} {v : Int} (hv : InR v) (hk : k = 7 ∨ 1518 ≤ k) : Mid (updI m k v) pool B := by
  obtain ⟨h1, h2, h3, h4⟩ := h
  have k0 := h1.1.2.1
  have k1 := h1.1.2.2.1
  exact ⟨h1.out hv (by omega) (by omega), h2.out (by omega) (by omega), h3.out hk (by omega), h4.out (by omega) (by omega)⟩
theorem Mid.up {m pool : Nat → Int} {B B' : Int} (h : Mid m pool B) (hb : B ≤ B') : Mid m pool B' := ⟨h.1.up hb, h.2⟩
section TN
variable {pool : Nat → Int} {sink : Int}
end TN
/-! a SCOPE comes -/
theorem opensM_at {m : Nat → Int} {C : Nat} {p t : Int} : opensM m C p t 0 = C + 1 ∧ opensM m C p t (18 + 4 * C) = 0 ∧ opensM m C p t (19 + 4 * C) = p ∧ opensM m C p t (20 + 4 * C) = m 6 + 1 ∧ opensM m C p t (21 + 4 * C) = t ∧ opensM m C p t 6 = m 6 + 1 ∧ ∀ q, ¬ q = 0 → ¬ q = 6 → (q < 18 + 4 * C ∨ 22 + 4 * C ≤ q) → opensM m C p t q = m q := by
  unfold opensM
  refine ⟨?_, ?_, ?_, ?_, ?_, ?_, fun q a b c => ?_⟩
  · rw [updI_n (by omega), updI_n (by omega), updI_n (by omega), updI_n (by omega), updI_n (by omega), updI_s]
  · rw [updI_n (by omega), updI_n (by omega), updI_n (by omega), updI_n (by omega), updI_s]
  · rw [updI_n (by omega), updI_n (by omega), updI_n (by omega), updI_s]
  · rw [updI_n (by omega), updI_s]
  · rw [updI_s]
  · rw [updI_n (by omega), updI_n (by omega), updI_s]
  · rw [updI_n (by omega), updI_n (by omega), updI_n (by omega), updI_n (by omega), updI_n (by omega), updI_n (by omega)]

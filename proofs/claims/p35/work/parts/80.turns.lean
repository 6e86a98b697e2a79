/-! ===== turns come to their end ===== -/
def NS (m : Nat → Int) : Prop := ∀ c : Nat, (c : Int) < m 0 → ¬ m (18 + 4 * c) = 1
theorem Es.ns {m m' : Nat → Int} (h : Es m m') (k : NS m) (h0 : m 0 ≤ 60) : NS m' := by
  intro c hc
  rw [h.1 0 (Or.inl rfl)] at hc
  rcases h.2.1 c (by omega) with w | w
  · rw [w]; exact k c hc
  · rw [w.2.1]; decide
def stkOk (m : Nat → Int) (t n : Nat) : Prop := (1 ≤ n ∧ n ≤ 60) ∧ (∀ k : Nat, k < n → (k : Int) + 1 ≤ m (1620 + 72 * t + k) ∧ m (1620 + 72 * t + k) < m 0) ∧ ∀ k : Nat, k + 1 < n → m (19 + 4 * (m (1620 + 72 * t + (k + 1))).toNat) = m (1620 + 72 * t + k)
def tkB (m pool : Nat → Int) (t : Nat) : Prop :=
  (-99 ≤ m (1609 + 72 * t) ∧ m (1609 + 72 * t) ≤ 99) ∧ (0 ≤ m (1610 + 72 * t) ∧ m (1610 + 72 * t) ≤ 3) ∧ (m (1614 + 72 * t) = 0 ∨ m (1614 + 72 * t) = 1) ∧
  ((0 ≤ m (1612 + 72 * t) ∧ m (1612 + 72 * t) ≤ m 7) ∧ (0 ≤ m (1613 + 72 * t) ∧ m (1613 + 72 * t) ≤ m 7)) ∧ (0 ≤ m (1615 + 72 * t) ∧ m (1615 + 72 * t) ≤ 300) ∧ m (1608 + 72 * t) = m (1620 + 72 * t) ∧
  (∃ n : Nat, m (1619 + 72 * t) = n ∧ stkOk m t n) ∧ (∃ p : Nat, m (1611 + 72 * t) = p ∧ p ≤ 12343) ∧ ∃ P E : Nat, m (1616 + 72 * t) = P ∧ m (1617 + 72 * t) = E ∧ (E : Int) < m 8 ∧ P < E ∧ E ≤ P + 120 ∧ ∃ k, stsT pool k 0 P E
def rdOk (m pool : Nat → Int) (t : Nat) : Prop := m (1610 + 72 * t) = 0 → ∃ o P E p : Nat, m (1619 + 72 * t) = (o : Int) + 1 ∧ m (1616 + 72 * t) = P ∧ m (1617 + 72 * t) = E ∧ m (1611 + 72 * t) = p ∧ P ≤ p ∧ m (1615 + 72 * t) ≤ (p : Int) - P ∧ ∃ k, stsT pool k o p E
/-- the tasks, but for what the one at work goes on from -/
def TkM (m pool : Nat → Int) (t0 : Nat) : Prop := 0 ≤ m 7 ∧ ∀ t : Nat, (t : Int) < m 3 → tkB m pool t ∧ (¬ t = t0 → rdOk m pool t)
theorem TkM.weak {m pool : Nat → Int} {t0 : Nat} (h : TkM m pool 99) (h3 : m 3 ≤ 10) : TkM m pool t0 :=
  ⟨h.1, fun t ht => ⟨(h.2 t ht).1, fun _ => (h.2 t ht).2 (by omega)⟩⟩
/-- nothing of a task was touched but asking -/
def sameTk (m m' : Nat → Int) (t : Nat) : Prop := (∀ q, 1608 + 72 * t ≤ q → q < 1680 + 72 * t → ¬ q = 1614 + 72 * t → m' q = m q) ∧ (m' (1614 + 72 * t) = m (1614 + 72 * t) ∨ m' (1614 + 72 * t) = 1)
theorem tkB.same {m m' pool : Nat → Int} {t : Nat} (h : tkB m pool t) (hs : sameTk m m' t) (h0 : m 0 ≤ m' 0) (h60 : m 0 ≤ 60) (h7 : m 7 ≤ m' 7) (h8 : m 8 ≤ m' 8) (hp : ∀ c : Nat, 1 ≤ c → (c : Int) < m 0 → m' (19 + 4 * c) = m (19 + 4 * c)) : tkB m' pool t := by
  obtain ⟨a1, a2, a3, a4, a5, a6, ⟨n, a7, a8⟩, a9, a10⟩ := h
  obtain ⟨s1, s2⟩ := hs
  unfold tkB
  rw [s1 (1609 + 72 * t) (by omega) (by omega) (by omega), s1 (1610 + 72 * t) (by omega) (by omega) (by omega), s1 (1612 + 72 * t) (by omega) (by omega) (by omega), s1 (1613 + 72 * t) (by omega) (by omega) (by omega), s1 (1615 + 72 * t) (by omega) (by omega) (by omega), s1 (1608 + 72 * t) (by omega) (by omega) (by omega), s1 (1620 + 72 * t) (by omega) (by omega) (by omega), s1 (1619 + 72 * t) (by omega) (by omega) (by omega), s1 (1611 + 72 * t) (by omega) (by omega) (by omega), s1 (1616 + 72 * t) (by omega) (by omega) (by omega), s1 (1617 + 72 * t) (by omega) (by omega) (by omega)]
  refine ⟨a1, a2, ?_, ⟨⟨a4.1.1, by omega⟩, ⟨a4.2.1, by omega⟩⟩, a5, a6, ⟨n, a7, ?_⟩, a9, a10.imp (fun P z => z.imp (fun E w => ⟨w.1, w.2.1, by omega, w.2.2.2⟩))⟩
  · rcases s2 with s2 | s2
    · rw [s2]; exact a3
    · exact Or.inr s2
  · obtain ⟨b1, b2, b3⟩ := a8
    refine ⟨b1, fun k hk => ?_, fun k hk => ?_⟩
    · rw [s1 _ (by omega) (by omega) (by omega)]
      have := b2 k hk; omega
    · have c1 := b2 (k + 1) hk
      rw [s1 (1620 + 72 * t + (k + 1)) (by omega) (by omega) (by omega), s1 (1620 + 72 * t + k) (by omega) (by omega) (by omega), hp _ (by omega) (by omega)]
      exact b3 k hk
theorem rdOk.same {m m' pool : Nat → Int} {t : Nat} (h : rdOk m pool t) (hs : sameTk m m' t) : rdOk m' pool t := by
  obtain ⟨s1, s2⟩ := hs
  unfold rdOk at h ⊢
  rw [s1 (1610 + 72 * t) (by omega) (by omega) (by omega), s1 (1615 + 72 * t) (by omega) (by omega) (by omega), s1 (1619 + 72 * t) (by omega) (by omega) (by omega), s1 (1611 + 72 * t) (by omega) (by omega) (by omega), s1 (1616 + 72 * t) (by omega) (by omega) (by omega), s1 (1617 + 72 * t) (by omega) (by omega) (by omega)]
  exact h
theorem Es.tk {m m' : Nat → Int} (h : Es m m') {t : Nat} (ht : t ≤ 9) : sameTk m m' t :=
  ⟨fun q a b c => h.1 q (Or.inr (Or.inr (Or.inr (Or.inr (Or.inr ⟨by omega, by omega, fun u => by omega⟩))))), h.2.2.2.2 t ht⟩
theorem TkM.es {m m' pool : Nat → Int} {t0 : Nat} (h : TkM m pool t0) (k : Es m m') (h3 : m 3 ≤ 10) (h60 : m 0 ≤ 60) : TkM m' pool t0 := by
  have e0 : m' 0 = m 0 := k.1 0 (Or.inl rfl)
  have e3 : m' 3 = m 3 := k.1 3 (Or.inr (Or.inl rfl))
  have e7 : m' 7 = m 7 := k.1 7 (Or.inr (Or.inr (Or.inl rfl)))
  have e8 : m' 8 = m 8 := k.1 8 (Or.inr (Or.inr (Or.inr (Or.inl rfl))))
  refine ⟨by rw [e7]; exact h.1, fun t ht => ?_⟩
  rw [e3] at ht
  obtain ⟨a, b⟩ := h.2 t ht
  have s := k.tk (t := t) (by omega)
  exact ⟨a.same s (by omega) h60 (by omega) (by omega) (fun c h1 h2 => k.1 _ (Or.inr (Or.inr (Or.inr (Or.inr (Or.inl ⟨by omega, by omega, fun u => by omega⟩)))))), fun z => (b z).same s⟩
theorem ScI.out {m : Nat → Int} (h : ScI m) {k : Nat} {v : Int} (hk : k = 7 ∨ 258 ≤ k) (h0 : m 0 ≤ 60) : ScI (updI m k v) := by
  have e : ∀ q, ¬ q = 7 → q < 258 → updI m k v q = m q := fun q a b => updI_n (by omega)
  obtain ⟨h1, h2, h3⟩ := h
  refine ⟨by rw [e _ (by omega) (by omega)]; exact h1, by rw [e _ (by omega) (by omega)]; exact h2, fun c hc => ?_⟩
  rw [e 0 (by omega) (by omega)] at hc
  obtain ⟨a, b⟩ := h3 c hc
  rw [e (18 + 4 * c) (by omega) (by omega), e (19 + 4 * c) (by omega) (by omega), e (20 + 4 * c) (by omega) (by omega), e 6 (by omega) (by omega)]
  refine ⟨a, fun g => ?_⟩
  obtain ⟨b1, b2, b3⟩ := b g
  rw [e (18 + 4 * (m (19 + 4 * c)).toNat) (by omega) (by omega)]
  exact ⟨b1, b2, b3⟩
theorem NC.out {m : Nat → Int} (h : NC m) {k : Nat} {v : Int} (hk : k = 7 ∨ 1518 ≤ k) (h1 : m 1 ≤ 90) : NC (updI m k v) := by
  intro t ht
  rw [updI_n (by omega)] at ht
  rw [updI_n (by omega)]; exact h t ht
theorem NS.out {m : Nat → Int} (h : NS m) {k : Nat} {v : Int} (hk : k = 7 ∨ 258 ≤ k) (h0 : m 0 ≤ 60) : NS (updI m k v) := by
  intro t ht
  rw [updI_n (by omega)] at ht
  rw [updI_n (by omega)]; exact h t ht
/-- all that is kept while calls and turns go on -/
def Mid (m pool : Nat → Int) (B : Int) : Prop := Inv m pool B ∧ ScI m ∧ NC m ∧ NS m
theorem Mid.out {m pool : Nat → Int} {B : Int} (h : Mid m pool B) {k : Nat} {v : Int} (hv : InR v) (hk : k = 7 ∨ 1518 ≤ k) : Mid (updI m k v) pool B := by
  obtain ⟨h1, h2, h3, h4⟩ := h
  have k0 := h1.1.2.1
  have k1 := h1.1.2.2.1
  exact ⟨h1.out hv (by omega) (by omega), h2.out (by omega) (by omega), h3.out hk (by omega), h4.out (by omega) (by omega)⟩
theorem Mid.up {m pool : Nat → Int} {B B' : Int} (h : Mid m pool B) (hb : B ≤ B') : Mid m pool B' := ⟨h.1.up hb, h.2⟩
section TN
variable {pool : Nat → Int} {sink : Int}
end TN
/-! a SCOPE comes -/
theorem opensM_at {m : Nat → Int} {C : Nat} {p t : Int} : opensM m C p t 0 = C + 1 ∧ opensM m C p t (18 + 4 * C) = 0 ∧ opensM m C p t (19 + 4 * C) = p ∧ opensM m C p t (20 + 4 * C) = m 6 + 1 ∧ opensM m C p t (21 + 4 * C) = t ∧ opensM m C p t 6 = m 6 + 1 ∧ ∀ q, ¬ q = 0 → ¬ q = 6 → (q < 18 + 4 * C ∨ 22 + 4 * C ≤ q) → opensM m C p t q = m q := by
  unfold opensM
  refine ⟨?_, ?_, ?_, ?_, ?_, ?_, fun q a b c => ?_⟩
  · rw [updI_n (by omega), updI_n (by omega), updI_n (by omega), updI_n (by omega), updI_n (by omega), updI_s]
  · rw [updI_n (by omega), updI_n (by omega), updI_n (by omega), updI_n (by omega), updI_s]
  · rw [updI_n (by omega), updI_n (by omega), updI_n (by omega), updI_s]
  · rw [updI_n (by omega), updI_s]
  · rw [updI_s]
  · rw [updI_n (by omega), updI_n (by omega), updI_s]
  · rw [updI_n (by omega), updI_n (by omega), updI_n (by omega), updI_n (by omega), updI_n (by omega), updI_n (by omega)]
theorem mid_opens {m pool : Nat → Int} {B : Int} (h : Mid m pool B) {C p : Nat} {t : Int} (hC : m 0 = (C : Int)) (hC2 : C ≤ 59) (hp : p < C) (hp0 : m (18 + 4 * p) = 0) (ht : InR t) (hB : B ≤ 2000000000) : Mid (opensM m C p t) pool (B + 1) := by
  obtain ⟨o0, o1, o2, o3, o4, o6, e⟩ := opensM_at (m := m) (C := C) (p := (p : Int)) (t := t)
  obtain ⟨⟨⟨hM, k0, k1, k2, k3, k4, k5, k7⟩, g2, g3, g4, g5, g6⟩, s, nc, ns⟩ := h
  have r6 : InR (m 6 + 1) := ⟨by omega, by omega⟩
  have cc : cnt (clsB (opensM m C p t)) (m 1).toNat = cnt (clsB m) (m 1).toNat := cnt_congr _ (fun q hq => by unfold clsB; rw [e _ (by omega) (by omega) (by omega)])
  have hin : ∀ q, InR (opensM m C p t q) := by
    unfold opensM
    exact updM_in (updM_in (updM_in (updM_in (updM_in (updM_in hM ⟨by omega, by omega⟩) (by decide)) ⟨by omega, by omega⟩) r6) r6) ht
  refine ⟨⟨⟨hin, ?_⟩, ?_⟩, ?_, ?_, ?_⟩
  · rw [o0, e 1 (by omega) (by omega) (by omega), e 2 (by omega) (by omega) (by omega), e 3 (by omega) (by omega) (by omega), e 4 (by omega) (by omega) (by omega), e 5 (by omega) (by omega) (by omega)]
    exact ⟨⟨by omega, by omega⟩, k1, k2, k3, k4, k5, fun u hu => by rw [e _ (by omega) (by omega) (by omega)]; exact k7 u hu⟩
  · rw [o0, e 1 (by omega) (by omega) (by omega), e 2 (by omega) (by omega) (by omega), e 4 (by omega) (by omega) (by omega), e 5 (by omega) (by omega) (by omega), e 8 (by omega) (by omega) (by omega), o6, cc]
    refine ⟨⟨by omega, g2.2⟩, fun u hu => ?_, g4, ⟨by omega, by omega⟩, fun u j hu hj => by rw [e _ (by omega) (by omega) (by omega)]; exact g6 u j hu hj⟩
    have z := g3 u hu
    unfold thOk at z ⊢
    rw [e (258 + 14 * u) (by omega) (by omega) (by omega), e (259 + 14 * u) (by omega) (by omega) (by omega), e (260 + 14 * u) (by omega) (by omega) (by omega), e (261 + 14 * u) (by omega) (by omega) (by omega), e (262 + 14 * u) (by omega) (by omega) (by omega), e (263 + 14 * u) (by omega) (by omega) (by omega), o0, o6, e 8 (by omega) (by omega) (by omega)]
    exact ⟨z.1, ⟨z.2.1.1, by omega⟩, ⟨z.2.2.1.1, z.2.2.1.2.1, by omega⟩, z.2.2.2⟩
  · obtain ⟨s1, s2, s3⟩ := s
    refine ⟨by rw [e 19 (by omega) (by omega) (by omega)]; exact s1, by rw [e 18 (by omega) (by omega) (by omega)]; exact s2, fun c hc => ?_⟩
    rw [o0] at hc
    by_cases q : c = C
    · subst q
      rw [o1, o2, o3, o6]
      refine ⟨by decide, fun _ => ⟨⟨by omega, by omega⟩, ⟨by omega, Int.le_refl _⟩, fun _ => ?_⟩⟩
      rw [show ((p : Int)).toNat = p by omega, e _ (by omega) (by omega) (by omega), hp0]; decide
    · obtain ⟨a, b⟩ := s3 c (by omega)
      rw [e (18 + 4 * c) (by omega) (by omega) (by omega), e (19 + 4 * c) (by omega) (by omega) (by omega), e (20 + 4 * c) (by omega) (by omega) (by omega), o6]
      refine ⟨a, fun h1 => ?_⟩
      obtain ⟨b1, b2, b3⟩ := b h1
      rw [e (18 + 4 * (m (19 + 4 * c)).toNat) (by omega) (by omega) (by omega)]
      exact ⟨b1, ⟨b2.1, by omega⟩, b3⟩
  · intro u hu
    rw [e 1 (by omega) (by omega) (by omega)] at hu
    rw [e _ (by omega) (by omega) (by omega)]; exact nc u hu
  · intro c hc
    rw [o0] at hc
    by_cases q : c = C
    · subst q; rw [o1]; decide
    · rw [e _ (by omega) (by omega) (by omega)]; exact ns c (by omega)
section TU
variable {pool : Nat → Int} {sink : Int}
/-- cells of the task at work that its steps leave alone -/
def keepT (m m' : Nat → Int) (t : Nat) : Prop := m' 3 = m 3 ∧ m' 7 = m 7 ∧ (m' 8 = m 8 ∧ m 1 ≤ m' 1) ∧ ∀ q, 1608 + 72 * t ≤ q → q < 1619 + 72 * t → ¬ q = 1614 + 72 * t → m' q = m q
theorem Es.kt {m m' : Nat → Int} (h : Es m m') {t : Nat} (ht : t ≤ 9) : keepT m m' t := ⟨h.1 3 (Or.inr (Or.inl rfl)), h.1 7 (Or.inr (Or.inr (Or.inl rfl))), ⟨h.1 8 (Or.inr (Or.inr (Or.inr (Or.inl rfl)))), h.2.2.1.1⟩, fun q a b c => (h.tk ht).1 q a (by omega) c⟩
theorem TkM.step {m m' : Nat → Int} {t : Nat} (h : TkM m pool t) (h3 : m' 3 = m 3) (h0 : m' 0 = m 0) (h60 : m 0 ≤ 60) (h10 : m 3 ≤ 10) (h7 : m 7 ≤ m' 7) (h8 : m 8 ≤ m' 8) (hp : ∀ c : Nat, 1 ≤ c → (c : Int) < m 0 → m' (19 + 4 * c) = m (19 + 4 * c)) (hs : ∀ u : Nat, ¬ u = t → u ≤ 9 → sameTk m m' u) (ht : (t : Int) < m 3 → tkB m' pool t) : TkM m' pool t := by
  have q := h.1
  refine ⟨by omega, fun u hu => ?_⟩
  by_cases c : u = t
  · subst c; exact ⟨ht (by omega), fun z => absurd rfl z⟩
  · obtain ⟨d1, d2⟩ := h.2 u (by omega)
    have s := hs u c (by omega)
    exact ⟨d1.same s (by omega) h60 h7 h8 hp, fun z => (d2 z).same s⟩
/-- all that holds when a turn is through -/
def Aft (m m' pool : Nat → Int) (B : Int) : Prop := Mid m' pool B ∧ TkM m' pool 99 ∧ m' 3 = m 3 ∧ m' 7 = m 7 ∧ (m' 8 = m 8 ∧ m 1 ≤ m' 1)
end TU

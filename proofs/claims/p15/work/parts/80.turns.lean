/-! ===== turns come to their end ===== -/
def NS (m : Nat → Int) : Prop := ∀ c : Nat, (c : Int) < m 0 → ¬ m (18 + 4 * c) = 1
theorem Es.ns {m m' : Nat → Int} (h : Es m m') (k : NS m) (h0 : m 0 ≤ 60) : NS m' := by
  intro c hc
  rw [h.1 0 (Or.inl rfl)] at hc
  rcases h.2.1 c (by omega) with w | w
  · rw [w]; exact k c hc
  · rw [w.2.1]; decide
def stkOk (m : Nat → Int) (t n : Nat) : Prop := (1 ≤ n ∧ n ≤ 60) ∧ (∀ k : Nat, k < n → (k : Int) + 1 ≤ m (1620 + 72 * t + k) ∧ m (1620 + 72 * t + k) < m 0) ∧ ∀ k : Nat, k + 1 < n → m (19 + 4 * (m (1620 + 72 * t + (k + 1))).toNat) = m (1620 + 72 * t + k)
def tkB (m pool : Nat → Int) (t : Nat) : Prop :=
  (-99 ≤ m (1609 + 72 * t) ∧ m (1609 + 72 * t) ≤ 99) ∧ (0 ≤ m (1610 + 72 * t) ∧ m (1610 + 72 * t) ≤ 3) ∧ (m (1614 + 72 * t) = 0 ∨ m (1614 + 72 * t) = 1) ∧
  ((0 ≤ m (1612 + 72 * t) ∧ m (1612 + 72 * t) ≤ m 7) ∧ (0 ≤ m (1613 + 72 * t) ∧ m (1613 + 72 * t) ≤ m 7)) ∧ (0 ≤ m (1615 + 72 * t) ∧ m (1615 + 72 * t) ≤ 300) ∧ m (1608 + 72 * t) = m (1620 + 72 * t) ∧
  (∃ n : Nat, m (1619 + 72 * t) = n ∧ stkOk m t n) ∧ (∃ p : Nat, m (1611 + 72 * t) = p ∧ p ≤ 12343) ∧ ∃ P E : Nat, m (1616 + 72 * t) = P ∧ m (1617 + 72 * t) = E ∧ (E : Int) < m 8 ∧ P < E ∧ E ≤ P + 120 ∧ ∃ k, stsT pool k 0 P E
def rdOk (m pool : Nat → Int) (t : Nat) : Prop := m (1610 + 72 * t) = 0 → ∃ o P E p : Nat, m (1619 + 72 * t) = (o : Int) + 1 ∧ m (1616 + 72 * t) = P ∧ m (1617 + 72 * t) = E ∧ m (1611 + 72 * t) = p ∧ P ≤ p ∧ m (1615 + 72 * t) ≤ (p : Int) - P ∧ ∃ k, stsT pool k o p E
/-- the tasks, but for what the one at work goes on from -/
def TkM (m pool : Nat → Int) (t0 : Nat) : Prop := 0 ≤ m 7 ∧ ∀ t : Nat, (t : Int) < m 3 → tkB m pool t ∧ (¬ t = t0 → rdOk m pool t)
theorem TkM.weak {m pool : Nat → Int} {t0 : Nat} (h : TkM m pool 99) (h3 : m 3 ≤ 10) : TkM m pool t0 :=
  ⟨h.1, fun t ht => ⟨(h.2 t ht).1, fun _ => (h.2 t ht).2 (by omega)⟩⟩
/-- nothing of a task was touched but asking -/
def sameTk (m m' : Nat → Int) (t : Nat) : Prop := (∀ q, 1608 + 72 * t ≤ q → q < 1680 + 72 * t → ¬ q = 1614 + 72 * t → m' q = m q) ∧ (m' (1614 + 72 * t) = m (1614 + 72 * t) ∨ m' (1614 + 72 * t) = 1)
theorem tkB.same {m m' pool : Nat → Int} {t : Nat} (h : tkB m pool t) (hs : sameTk m m' t) (h0 : m 0 ≤ m' 0) (h60 : m 0 ≤ 60) (h7 : m 7 ≤ m' 7) (h8 : m 8 ≤ m' 8) (hp : ∀ c : Nat, 1 ≤ c → (c : Int) < m 0 → m' (19 + 4 * c) = m (19 + 4 * c)) : tkB m' pool t := by
  obtain ⟨a1, a2, a3, a4, a5, a6, ⟨n, a7, a8⟩, a9, a10⟩ := h
  obtain ⟨s1, s2⟩ := hs
  unfold tkB
  rw [s1 (1609 + 72 * t) (by omega) (by omega) (by omega), s1 (1610 + 72 * t) (by omega) (by omega) (by omega), s1 (1612 + 72 * t) (by omega) (by omega) (by omega), s1 (1613 + 72 * t) (by omega) (by omega) (by omega), s1 (1615 + 72 * t) (by omega) (by omega) (by omega), s1 (1608 + 72 * t) (by omega) (by omega) (by omega), s1 (1620 + 72 * t) (by omega) (by omega) (by omega), s1 (1619 + 72 * t) (by omega) (by omega) (by omega), s1 (1611 + 72 * t) (by omega) (by omega) (by omega), s1 (1616 + 72 * t) (by omega) (by omega) (by omega), s1 (1617 + 72 * t) (by omega) (by omega) (by omega)]
  refine ⟨a1, a2, ?_, ⟨⟨a4.1.1, by omega⟩, ⟨a4.2.1, by omega⟩⟩, a5, a6, ⟨n, a7, ?_⟩, a9, a10.imp (fun P z => z.imp (fun E w => ⟨w.1, w.2.1, by omega, w.2.2.2⟩))⟩
  · rcases s2 with s2 | s2
    · rw [s2]; exact a3
    · exact Or.inr s2
  · obtain ⟨b1, b2, b3⟩ := a8
    refine ⟨b1, fun k hk => ?_, fun k hk => ?_⟩
    · rw [s1 _ (by omega) (by omega) (by omega)]
      have := b2 k hk; omega
    · have c1 := b2 (k + 1) hk
      rw [s1 (1620 + 72 * t + (k + 1)) (by omega) (by omega) (by omega), s1 (1620 + 72 * t + k) (by omega) (by omega) (by omega), hp _ (by omega) (by omega)]
      exact b3 k hk
theorem rdOk.same {m m' pool : Nat → Int} {t : Nat} (h : rdOk m pool t) (hs : sameTk m m' t) : rdOk m' pool t := by
  obtain ⟨s1, s2⟩ := hs
  unfold rdOk at h ⊢
  rw [s1 (1610 + 72 * t) (by omega) (by omega) (by omega), s1 (1615 + 72 * t) (by omega) (by omega) (by omega), s1 (1619 + 72 * t) (by omega) (by omega) (by omega), s1 (1611 + 72 * t) (by omega) (by omega) (by omega), s1 (1616 + 72 * t) (by omega) (by omega) (by omega), s1 (1617 + 72 * t) (by omega) (by omega) (by omega)]
  exact h
theorem Es.tk {m m' : Nat → Int} (h : Es m m') {t : Nat} (ht : t ≤ 9) : sameTk m m' t :=
  ⟨fun q a b c => h.1 q (Or.inr (Or.inr (Or.inr (Or.inr (Or.inr ⟨by omega, by omega, fun u => by omega⟩))))), h.2.2.2.2 t ht⟩
theorem TkM.es {m m' pool : Nat → Int} {t0 : Nat} (h : TkM m pool t0) (k : Es m m') (h3 : m 3 ≤ 10) (h60 : m 0 ≤ 60) : TkM m' pool t0 := by
  have e0 : m' 0 = m 0 := k.1 0 (Or.inl rfl)
  have e3 : m' 3 = m 3 := k.1 3 (Or.inr (Or.inl rfl))
  have e7 : m' 7 = m 7 := k.1 7 (Or.inr (Or.inr (Or.inl rfl)))
  have e8 : m' 8 = m 8 := k.1 8 (Or.inr (Or.inr (Or.inr (Or.inl rfl))))
  refine ⟨by rw [e7]; exact h.1, fun t ht => ?_⟩
  rw [e3] at ht
  obtain ⟨a, b⟩ := h.2 t ht
  have s := k.tk (t := t) (by omega)
  exact ⟨a.same s (by omega) h60 (by omega) (by omega) (fun c h1 h2 => k.1 _ (Or.inr (Or.inr (Or.inr (Or.inr (Or.inl ⟨by omega, by omega, fun u => by omega⟩)))))), fun z => (b z).same s⟩
theorem ScI.out {m : Nat → Int} (h : ScI m) {k : Nat} {v : Int} (hk : k = 7 ∨ 258 ≤ k) (h0 : m 0 ≤ 60) : ScI (updI m k v) := by
  have e : ∀ q, ¬ q = 7 → q < 258 → updI m k v q = m q := fun q a b => updI_n (by omega)
  obtain ⟨h1, h2, h3⟩ := h
  refine ⟨by rw [e _ (by omega) (by omega)]; exact h1, by rw [e _ (by omega) (by omega)]; exact h2, fun c hc => ?_⟩
  rw [e 0 (by omega) (by omega)] at hc
  obtain ⟨a, b⟩ := h3 c hc
  rw [e (18 + 4 * c) (by omega) (by omega), e (19 + 4 * c) (by omega) (by omega), e (20 + 4 * c) (by omega) (by omega), e 6 (by omega) (by omega)]
  refine ⟨a, fun g => ?_⟩
  obtain ⟨b1, b2, b3⟩ := b g
  rw [e (18 + 4 * (m (19 + 4 * c)).toNat) (by omega) (by omega)]
  exact ⟨b1, b2, b3⟩
theorem NC.out {m : Nat → Int} (h : NC m) {k : Nat} {v : Int} (hk : k = 7 ∨ 1518 ≤ k) (h1 : m 1 ≤ 90) : NC (updI m k v) := by
  intro t ht
  rw [updI_n (by omega)] at ht
  rw [updI_n (by omega)]; exact h t ht
theorem NS.out {m : Nat → Int} (h : NS m) {k : Nat} {v : Int} (hk : k = 7 ∨ 258 ≤ k) (h0 : m 0 ≤ 60) : NS (updI m k v) := by
  intro t ht
  rw [updI_n (by omega)] at ht
  rw [updI_n (by omega)]; exact h t ht
/-- all that is kept while calls and turns go on -/
def Mid (m pool : Nat → Int) (B : Int) : Prop := Inv m pool B ∧ ScI m ∧ NC m ∧ NS m
theorem Mid.out {m pool : Nat → Int} {B : Int} (h : Mid m pool B) {k : Nat} {v : Int} (hv : InR v) (hk : k = 7 ∨ 1518 ≤ k) : Mid (updI m k v) pool B := by
  obtain ⟨h1, h2, h3, h4⟩ := h
  have k0 := h1.1.2.1
  have k1 := h1.1.2.2.1
  exact ⟨h1.out hv (by omega) (by omega), h2.out (by omega) (by omega), h3.out hk (by omega), h4.out (by omega) (by omega)⟩
theorem Mid.up {m pool : Nat → Int} {B B' : Int} (h : Mid m pool B) (hb : B ≤ B') : Mid m pool B' := ⟨h.1.up hb, h.2⟩
section TN
variable {pool : Nat → Int} {sink : Int}
theorem over_ex (hPo : poolOk pool) (hk : InR sink) {t : Nat} (ht : t ≤ 9) : ∀ (n : Nat) (m : Nat → Int) (B : Int), Mid m pool B → B ≤ 1900000000 → n ≤ 60 → (∀ k : Nat, k < n → 0 ≤ m (1620 + 72 * t + k) ∧ m (1620 + 72 * t + k) < m 0) → ∃ m', overR (shutsR pool sink 61) t n m m' ∧ Mid m' pool B ∧ Es m m'
  | 0, m, B, h, _, _, _ => ⟨m, rfl, h, Es.rf⟩
  | n + 1, m, B, h, hB, hn, hs => by
    obtain ⟨h1, h2, h3, h4⟩ := id h
    obtain ⟨s0, s1⟩ := hs n (by omega)
    have k0 := h1.1.2.1
    have es : (((m (1620 + 72 * t + n)).toNat : Nat) : Int) = m (1620 + 72 * t + n) := by omega
    obtain ⟨m1, a, b, c, d, -⟩ := shuts_ex hPo hk 61 m (m (1620 + 72 * t + n)).toNat B h1 h2 h3 hB (by omega) (by omega) (fun c _ hc => h4 c hc)
    have e0 : m1 0 = m 0 := d.1 0 (Or.inl rfl)
    have st := (d.tk ht).1
    obtain ⟨m', a2, b2, c2⟩ := over_ex hPo hk ht n m1 B ⟨b, c, d.2.2.2.1 h3, d.ns h4 k0.2⟩ hB (by omega) (fun k hk => by
      rw [st _ (by omega) (by omega) (by omega), e0]
      exact hs k (by omega))
    exact ⟨m', ⟨h1.1.1, m1, by rw [es] at a; exact a, a2⟩, b2, d.tr c2⟩
theorem isOver_ex (hPo : poolOk pool) (hk : InR sink) {m : Nat → Int} {B : Int} {t : Nat} {st : Int} (ht : (t : Int) < m 3) (h : Mid m pool B) (hT : TkM m pool t) (hB : B ≤ 1900000000) (hst : 1 ≤ st ∧ st ≤ 3) : ∃ m', isOverR (shutsR pool sink 61) t st m m' ∧ Mid m' pool B ∧ TkM m' pool 99 ∧ Es (updI m (1610 + 72 * t) st) m' := by
  have k0 := h.1.1.2.1
  have k3 := h.1.1.2.2.2.2.1
  obtain ⟨b1, -⟩ := hT.2 t ht
  obtain ⟨a1, a2, a3, a4, a5, a6, ⟨n, a7, a8⟩, a9, a10⟩ := id b1
  have e : ∀ q, ¬ q = 1610 + 72 * t → updI m (1610 + 72 * t) st q = m q := fun q a => updI_n a
  have hm : Mid (updI m (1610 + 72 * t) st) pool B := h.out ⟨by omega, by omega⟩ (by omega)
  obtain ⟨m', c1, c2, c3⟩ := over_ex hPo hk (t := t) (by omega) n _ B hm hB a8.1.2 (fun k hk => by
    rw [e _ (by omega), e 0 (by omega)]
    have := a8.2.1 k hk; omega)
  refine ⟨m', ⟨by omega, n, a8.1.2, a7, c1⟩, c2, ?_, c3⟩
  have hT2 : TkM (updI m (1610 + 72 * t) st) pool 99 := by
    refine ⟨by rw [e 7 (by omega)]; exact hT.1, fun u hu => ?_⟩
    rw [e 3 (by omega)] at hu
    by_cases c : u = t
    · subst c
      refine ⟨?_, fun _ z => ?_⟩
      · unfold tkB
        rw [updI_s, e 8 (by omega), e _ (by omega), e _ (by omega), e _ (by omega), e _ (by omega), e _ (by omega), e _ (by omega), e _ (by omega), e _ (by omega), e _ (by omega), e _ (by omega), e _ (by omega), e _ (by omega)]
        refine ⟨a1, ⟨by omega, by omega⟩, a3, a4, a5, a6, ⟨n, a7, a8.1, fun k hk => ?_, fun k hk => ?_⟩, a9, a10⟩
        · rw [e _ (by omega), e 0 (by omega)]; exact a8.2.1 k hk
        · have z1 := a8.2.1 (k + 1) hk
          rw [e (1620 + 72 * u + (k + 1)) (by omega), e (1620 + 72 * u + k) (by omega), e _ (by omega)]; exact a8.2.2 k hk
      · rw [updI_s] at z; omega
    · obtain ⟨d1, d2⟩ := hT.2 u hu
      have s : sameTk m (updI m (1610 + 72 * t) st) u := ⟨fun q x y z => e q (by omega), Or.inl (e _ (by omega))⟩
      exact ⟨d1.same s (by rw [e 0 (by omega)]; exact Int.le_refl _) k0.2 (by rw [e 7 (by omega)]; exact Int.le_refl _) (by rw [e 8 (by omega)]; exact Int.le_refl _) (fun c h1 h2 => e _ (by omega)), fun _ => (d2 c).same s⟩
  exact hT2.es c3 (by rw [e 3 (by omega)]; omega) (by rw [e 0 (by omega)]; omega)
end TN
/-! a SCOPE comes -/
theorem opensM_at {m : Nat → Int} {C : Nat} {p t : Int} : opensM m C p t 0 = C + 1 ∧ opensM m C p t (18 + 4 * C) = 0 ∧ opensM m C p t (19 + 4 * C) = p ∧ opensM m C p t (20 + 4 * C) = m 6 + 1 ∧ opensM m C p t (21 + 4 * C) = t ∧ opensM m C p t 6 = m 6 + 1 ∧ ∀ q, ¬ q = 0 → ¬ q = 6 → (q < 18 + 4 * C ∨ 22 + 4 * C ≤ q) → opensM m C p t q = m q := by
  unfold opensM
  refine ⟨?_, ?_, ?_, ?_, ?_, ?_, fun q a b c => ?_⟩
  · rw [updI_n (by omega), updI_n (by omega), updI_n (by omega), updI_n (by omega), updI_n (by omega), updI_s]
  · rw [updI_n (by omega), updI_n (by omega), updI_n (by omega), updI_n (by omega), updI_s]
  · rw [updI_n (by omega), updI_n (by omega), updI_n (by omega), updI_s]
  · rw [updI_n (by omega), updI_s]
  · rw [updI_s]
  · rw [updI_n (by omega), updI_n (by omega), updI_s]
  · rw [updI_n (by omega), updI_n (by omega), updI_n (by omega), updI_n (by omega), updI_n (by omega), updI_n (by omega)]
theorem mid_opens {m pool : Nat → Int} {B : Int} (h : Mid m pool B) {C p : Nat} {t : Int} (hC : m 0 = (C : Int)) (hC2 : C ≤ 59) (hp : p < C) (hp0 : m (18 + 4 * p) = 0) (ht : InR t) (hB : B ≤ 2000000000) : Mid (opensM m C p t) pool (B + 1) := by
  obtain ⟨o0, o1, o2, o3, o4, o6, e⟩ := opensM_at (m := m) (C := C) (p := (p : Int)) (t := t)
  obtain ⟨⟨⟨hM, k0, k1, k2, k3, k4, k5, k7⟩, g2, g3, g4, g5, g6⟩, s, nc, ns⟩ := h
  have r6 : InR (m 6 + 1) := ⟨by omega, by omega⟩
  have cc : cnt (clsB (opensM m C p t)) (m 1).toNat = cnt (clsB m) (m 1).toNat := cnt_congr _ (fun q hq => by unfold clsB; rw [e _ (by omega) (by omega) (by omega)])
  have hin : ∀ q, InR (opensM m C p t q) := by
    unfold opensM
    exact updM_in (updM_in (updM_in (updM_in (updM_in (updM_in hM ⟨by omega, by omega⟩) (by decide)) ⟨by omega, by omega⟩) r6) r6) ht
  refine ⟨⟨⟨hin, ?_⟩, ?_⟩, ?_, ?_, ?_⟩
  · rw [o0, e 1 (by omega) (by omega) (by omega), e 2 (by omega) (by omega) (by omega), e 3 (by omega) (by omega) (by omega), e 4 (by omega) (by omega) (by omega), e 5 (by omega) (by omega) (by omega)]
    exact ⟨⟨by omega, by omega⟩, k1, k2, k3, k4, k5, fun u hu => by rw [e _ (by omega) (by omega) (by omega)]; exact k7 u hu⟩
  · rw [o0, e 1 (by omega) (by omega) (by omega), e 2 (by omega) (by omega) (by omega), e 4 (by omega) (by omega) (by omega), e 5 (by omega) (by omega) (by omega), e 8 (by omega) (by omega) (by omega), o6, cc]
    refine ⟨⟨by omega, g2.2⟩, fun u hu => ?_, g4, ⟨by omega, by omega⟩, fun u j hu hj => by rw [e _ (by omega) (by omega) (by omega)]; exact g6 u j hu hj⟩
    have z := g3 u hu
    unfold thOk at z ⊢
    rw [e (258 + 14 * u) (by omega) (by omega) (by omega), e (259 + 14 * u) (by omega) (by omega) (by omega), e (260 + 14 * u) (by omega) (by omega) (by omega), e (261 + 14 * u) (by omega) (by omega) (by omega), e (262 + 14 * u) (by omega) (by omega) (by omega), e (263 + 14 * u) (by omega) (by omega) (by omega), o0, o6, e 8 (by omega) (by omega) (by omega)]
    exact ⟨z.1, ⟨z.2.1.1, by omega⟩, ⟨z.2.2.1.1, z.2.2.1.2.1, by omega⟩, z.2.2.2⟩
  · obtain ⟨s1, s2, s3⟩ := s
    refine ⟨by rw [e 19 (by omega) (by omega) (by omega)]; exact s1, by rw [e 18 (by omega) (by omega) (by omega)]; exact s2, fun c hc => ?_⟩
    rw [o0] at hc
    by_cases q : c = C
    · subst q
      rw [o1, o2, o3, o6]
      refine ⟨by decide, fun _ => ⟨⟨by omega, by omega⟩, ⟨by omega, Int.le_refl _⟩, fun _ => ?_⟩⟩
      rw [show ((p : Int)).toNat = p by omega, e _ (by omega) (by omega) (by omega), hp0]; decide
    · obtain ⟨a, b⟩ := s3 c (by omega)
      rw [e (18 + 4 * c) (by omega) (by omega) (by omega), e (19 + 4 * c) (by omega) (by omega) (by omega), e (20 + 4 * c) (by omega) (by omega) (by omega), o6]
      refine ⟨a, fun h1 => ?_⟩
      obtain ⟨b1, b2, b3⟩ := b h1
      rw [e (18 + 4 * (m (19 + 4 * c)).toNat) (by omega) (by omega) (by omega)]
      exact ⟨b1, ⟨b2.1, by omega⟩, b3⟩
  · intro u hu
    rw [e 1 (by omega) (by omega) (by omega)] at hu
    rw [e _ (by omega) (by omega) (by omega)]; exact nc u hu
  · intro c hc
    rw [o0] at hc
    by_cases q : c = C
    · subst q; rw [o1]; decide
    · rw [e _ (by omega) (by omega) (by omega)]; exact ns c (by omega)
section TU
variable {pool : Nat → Int} {sink : Int}
/-- cells of the task at work that its steps leave alone -/
def keepT (m m' : Nat → Int) (t : Nat) : Prop := m' 3 = m 3 ∧ m' 7 = m 7 ∧ (m' 8 = m 8 ∧ m 1 ≤ m' 1) ∧ ∀ q, 1608 + 72 * t ≤ q → q < 1619 + 72 * t → ¬ q = 1614 + 72 * t → m' q = m q
theorem Es.kt {m m' : Nat → Int} (h : Es m m') {t : Nat} (ht : t ≤ 9) : keepT m m' t := ⟨h.1 3 (Or.inr (Or.inl rfl)), h.1 7 (Or.inr (Or.inr (Or.inl rfl))), ⟨h.1 8 (Or.inr (Or.inr (Or.inr (Or.inl rfl)))), h.2.2.1.1⟩, fun q a b c => (h.tk ht).1 q a (by omega) c⟩
theorem doesIn_ex (hPo : poolOk pool) (hk : InR sink) {m : Nat → Int} {B : Int} {t p e o o' k : Nat} (ht : (t : Int) < m 3) (h : Mid m pool B) (hT : TkM m pool t) (hB : B ≤ 1800000000) (hn : m (1619 + 72 * t) = (o : Int) + 1) (hK : stepK pool (stsC pool k) o p e o') (he : ¬ dgP (pool e)) (he2 : e ≤ p + 121) (hp : (e : Int) ≤ m 8) :
    ∃ f m', doesInR pool (closesR pool sink 91) (shutsR pool sink 61) m t p f m' ∧ Mid m' pool (B + 1) ∧ TkM m' pool t ∧ InR f ∧ keepT m m' t ∧ (f = 0 → m' (1619 + 72 * t) = (o' : Int) + 1) := by
  obtain ⟨h1, h2, h3, h4⟩ := id h
  obtain ⟨hM, k0, k1, k2, k3, k4, k5, k7⟩ := id h1.1
  have hlt := stepK_lt hK
  have h8 := h1.2.1.2.2
  obtain ⟨b1, -⟩ := hT.2 t ht
  obtain ⟨a1, a2, a3, a4, a5, a6, ⟨n, a7, a8⟩, a9, a10⟩ := id b1
  obtain rfl : n = o + 1 := by omega
  obtain ⟨⟨n1, n2⟩, n3, n4⟩ := id a8
  have top := n3 o (by omega)
  have etop : m (1619 + 72 * t + (o + 1)) = m (1620 + 72 * t + o) := by congr 1; omega
  rcases hK with ⟨hK, rfl⟩ | ⟨hK, -, rfl⟩ | ⟨hK, -, ho⟩
  · have hpk : ¬ pool p = 40 ∧ ¬ pool p = 41 := by
      rcases hK with (z | z | z | z | z | z | z) | z
      all_goals (have := z.1; constructor <;> omega)
    obtain ⟨f, m', a, b, c, d⟩ := stepQ_ex (s2 := m (1619 + 72 * t + (o' + 1))) hPo (closes_ex hPo hk 91) h1 (by omega) (by rw [h3.cnt k1.1]; omega) (hM _) hK he he2 hp
    have ces := c.es
    exact ⟨f, m', ⟨h1.1, by omega, by omega, o' + 1, n2, a7, Or.inr (Or.inr ⟨hpk.1, hpk.2, a⟩)⟩, ⟨b, c.sc h2 k0.2, ces.2.2.2.1 h3, ces.ns h4 k0.2⟩, hT.es ces k3.2 k0.2, d, ces.kt (by omega), fun _ => by rw [(ces.tk (t := t) (by omega)).1 _ (by omega) (by omega) (by omega)]; exact hn⟩
  · by_cases c6 : m 0 = 60
    · exact ⟨107, m, ⟨h1.1, by omega, by omega, o + 1, n2, a7, Or.inl ⟨hK, Or.inl ⟨c6, rfl, rfl⟩⟩⟩, h.up (by omega), hT, by decide, ⟨rfl, rfl, ⟨rfl, Int.le_refl _⟩, fun _ _ _ _ => rfl⟩, fun z => absurd z (by decide)⟩
    · by_cases co : openP m (m (1619 + 72 * t + (o + 1)))
      · have es : (((m (1620 + 72 * t + o)).toNat : Nat) : Int) = m (1620 + 72 * t + o) := by omega
        have eC : (((m 0).toNat : Nat) : Int) = m 0 := by omega
        have hp0 : m (18 + 4 * (m (1620 + 72 * t + o)).toNat) = 0 := by
          have := co.2.2
          rw [etop] at this
          rw [← this]; congr 1; omega
        have mo := mid_opens h (C := (m 0).toNat) (p := (m (1620 + 72 * t + o)).toNat) (t := (t : Int)) (by omega) (by omega) (by omega) hp0 ⟨by omega, by omega⟩ (by omega)
        rw [es, ← etop] at mo
        obtain ⟨o0, o1, o2, o3, o4, o6, oe⟩ := opensM_at (m := m) (C := (m 0).toNat) (p := m (1619 + 72 * t + (o + 1))) (t := (t : Int))
        have mm := (mo.out (k := 1620 + 72 * t + (o + 1)) (v := m 0) ⟨by omega, by omega⟩ (by omega)).out (k := 1619 + 72 * t) (v := ((o + 1 : Nat) : Int) + 1) ⟨by omega, by omega⟩ (by omega)
        have ev : ∀ q, ¬ q = 1619 + 72 * t → ¬ q = 1620 + 72 * t + (o + 1) → updI (updI (opensM m (m 0).toNat (m (1619 + 72 * t + (o + 1))) t) (1620 + 72 * t + (o + 1)) (m 0)) (1619 + 72 * t) (((o + 1 : Nat) : Int) + 1) q = opensM m (m 0).toNat (m (1619 + 72 * t + (o + 1))) t q := fun q a b => by rw [updI_n a, updI_n b]
        have oo : o + 1 < 59 := by omega
        refine ⟨0, _, ⟨h1.1, by omega, by omega, o + 1, n2, a7, Or.inl ⟨hK, Or.inr (Or.inr ⟨c6, co, rfl, rfl⟩)⟩⟩, mm, ⟨?_, fun u hu => ?_⟩, by decide, ⟨?_, ?_, ?_, fun q x y z => ?_⟩, fun _ => updI_s⟩
        · rw [ev 7 (by omega) (by omega), oe 7 (by omega) (by omega) (by omega)]; exact hT.1
        · rw [ev 3 (by omega) (by omega), oe 3 (by omega) (by omega) (by omega)] at hu
          by_cases c : u = t
          · subst c
            refine ⟨?_, fun z => absurd rfl z⟩
            have ow : ∀ q, 1608 + 72 * u ≤ q → ¬ q = 1619 + 72 * u → ¬ q = 1620 + 72 * u + (o + 1) → updI (updI (opensM m (m 0).toNat (m (1619 + 72 * u + (o + 1))) u) (1620 + 72 * u + (o + 1)) (m 0)) (1619 + 72 * u) (((o + 1 : Nat) : Int) + 1) q = m q := fun q a b c => by rw [ev q b c, oe q (by omega) (by omega) (by omega)]
            unfold tkB
            rw [ow (1609 + 72 * u) (by omega) (by omega) (by omega), ow (1610 + 72 * u) (by omega) (by omega) (by omega), ow (1614 + 72 * u) (by omega) (by omega) (by omega), ow (1612 + 72 * u) (by omega) (by omega) (by omega), ow (1613 + 72 * u) (by omega) (by omega) (by omega), ow (1615 + 72 * u) (by omega) (by omega) (by omega), ow (1608 + 72 * u) (by omega) (by omega) (by omega), ow (1620 + 72 * u) (by omega) (by omega) (by omega), ow (1611 + 72 * u) (by omega) (by omega) (by omega), ow (1616 + 72 * u) (by omega) (by omega) (by omega), ow (1617 + 72 * u) (by omega) (by omega) (by omega), ev 7 (by omega) (by omega), oe 7 (by omega) (by omega) (by omega), ev 8 (by omega) (by omega), oe 8 (by omega) (by omega) (by omega), updI_s]
            refine ⟨a1, a2, a3, a4, a5, a6, ⟨o + 1 + 1, by omega, ⟨⟨by omega, by omega⟩, fun j hj => ?_, fun j hj => ?_⟩⟩, a9, a10⟩
            · rw [ev 0 (by omega) (by omega), o0]
              by_cases cj : j = o + 1
              · subst cj
                rw [updI_n (by omega), updI_s]; omega
              · rw [ow _ (by omega) (by omega) (by omega)]
                have := n3 j (by omega); omega
            · by_cases cj : j = o
              · subst cj
                rw [show updI (updI (opensM m (m 0).toNat (m (1619 + 72 * u + (j + 1))) u) (1620 + 72 * u + (j + 1)) (m 0)) (1619 + 72 * u) (((j + 1 : Nat) : Int) + 1) (1620 + 72 * u + (j + 1)) = m 0 by rw [updI_n (by omega), updI_s], ow (1620 + 72 * u + j) (by omega) (by omega) (by omega), ev _ (by omega) (by omega), o2, etop]
              · have z1 := n3 (j + 1) (by omega)
                rw [ow (1620 + 72 * u + (j + 1)) (by omega) (by omega) (by omega), ow (1620 + 72 * u + j) (by omega) (by omega) (by omega), ev _ (by omega) (by omega), oe _ (by omega) (by omega) (by omega)]
                exact n4 j (by omega)
          · obtain ⟨d1, d2⟩ := hT.2 u hu
            have s : sameTk m (updI (updI (opensM m (m 0).toNat (m (1619 + 72 * t + (o + 1))) t) (1620 + 72 * t + (o + 1)) (m 0)) (1619 + 72 * t) (((o + 1 : Nat) : Int) + 1)) u := ⟨fun q x y z => by rw [ev q (by omega) (by omega), oe q (by omega) (by omega) (by omega)], Or.inl (by rw [ev _ (by omega) (by omega), oe _ (by omega) (by omega) (by omega)])⟩
            exact ⟨d1.same s (by rw [ev 0 (by omega) (by omega), o0]; omega) k0.2 (by rw [ev 7 (by omega) (by omega), oe 7 (by omega) (by omega) (by omega)]; exact Int.le_refl _) (by rw [ev 8 (by omega) (by omega), oe 8 (by omega) (by omega) (by omega)]; exact Int.le_refl _) (fun c x y => by rw [ev _ (by omega) (by omega), oe _ (by omega) (by omega) (by omega)]), fun z => (d2 c).same s⟩
        · rw [ev 3 (by omega) (by omega), oe 3 (by omega) (by omega) (by omega)]
        · rw [ev 7 (by omega) (by omega), oe 7 (by omega) (by omega) (by omega)]
        · rw [ev 8 (by omega) (by omega), oe 8 (by omega) (by omega) (by omega), ev 1 (by omega) (by omega), oe 1 (by omega) (by omega) (by omega)]; exact ⟨rfl, Int.le_refl _⟩
        · rw [ev q (by omega) (by omega), oe q (by omega) (by omega) (by omega)]
      · exact ⟨101, m, ⟨h1.1, by omega, by omega, o + 1, n2, a7, Or.inl ⟨hK, Or.inr (Or.inl ⟨c6, co, rfl, rfl⟩)⟩⟩, h.up (by omega), hT, by decide, ⟨rfl, rfl, ⟨rfl, Int.le_refl _⟩, fun _ _ _ _ => rfl⟩, fun z => absurd z (by decide)⟩
  · subst ho
    have e1 : ∀ q, ¬ q = 1619 + 72 * t → updI m (1619 + 72 * t) (((o' + 1 + 1 : Nat) : Int) - 1) q = m q := fun q a => updI_n a
    have mm : Mid (updI m (1619 + 72 * t) (((o' + 1 + 1 : Nat) : Int) - 1)) pool B := h.out ⟨by omega, by omega⟩ (by omega)
    have hT2 : TkM (updI m (1619 + 72 * t) (((o' + 1 + 1 : Nat) : Int) - 1)) pool t := by
      refine ⟨by rw [e1 7 (by omega)]; exact hT.1, fun u hu => ?_⟩
      rw [e1 3 (by omega)] at hu
      by_cases c : u = t
      · subst c
        refine ⟨?_, fun z => absurd rfl z⟩
        unfold tkB
        rw [updI_s, e1 8 (by omega), e1 _ (by omega), e1 _ (by omega), e1 _ (by omega), e1 _ (by omega), e1 _ (by omega), e1 _ (by omega), e1 _ (by omega), e1 _ (by omega), e1 _ (by omega), e1 _ (by omega), e1 _ (by omega), e1 _ (by omega)]
        refine ⟨a1, a2, a3, a4, a5, a6, ⟨o' + 1, by omega, ⟨⟨by omega, by omega⟩, fun j hj => ?_, fun j hj => ?_⟩⟩, a9, a10⟩
        · rw [e1 _ (by omega), e1 0 (by omega)]; exact n3 j (by omega)
        · have z1 := n3 (j + 1) (by omega)
          rw [e1 (1620 + 72 * u + (j + 1)) (by omega), e1 (1620 + 72 * u + j) (by omega), e1 _ (by omega)]; exact n4 j (by omega)
      · obtain ⟨d1, d2⟩ := hT.2 u hu
        have s : sameTk m (updI m (1619 + 72 * t) (((o' + 1 + 1 : Nat) : Int) - 1)) u := ⟨fun q x y z => e1 q (by omega), Or.inl (e1 _ (by omega))⟩
        exact ⟨d1.same s (by rw [e1 0 (by omega)]; exact Int.le_refl _) k0.2 (by rw [e1 7 (by omega)]; exact Int.le_refl _) (by rw [e1 8 (by omega)]; exact Int.le_refl _) (fun c x y => e1 _ (by omega)), fun _ => (d2 c).same s⟩
    have es : (((m (1620 + 72 * t + (o' + 1))).toNat : Nat) : Int) = m (1620 + 72 * t + (o' + 1)) := by omega
    obtain ⟨m', a, b, c, d, -⟩ := shuts_ex hPo hk 61 _ (m (1620 + 72 * t + (o' + 1))).toNat B mm.1 mm.2.1 mm.2.2.1 (by omega) (by omega) (by rw [e1 0 (by omega)]; omega) (fun c _ hc => mm.2.2.2 c hc)
    rw [es, ← etop] at a
    have kt := d.kt (t := t) (by omega)
    refine ⟨0, m', ⟨h1.1, by omega, by omega, o' + 1 + 1, n2, a7, Or.inr (Or.inl ⟨hK, rfl, a⟩)⟩, ⟨b.up (by omega), c, d.2.2.2.1 mm.2.2.1, d.ns mm.2.2.2 (by rw [e1 0 (by omega)]; omega)⟩, hT2.es d (by rw [e1 3 (by omega)]; omega) (by rw [e1 0 (by omega)]; omega), by decide, ⟨kt.1.trans (e1 3 (by omega)), kt.2.1.trans (e1 7 (by omega)), ⟨kt.2.2.1.1.trans (e1 8 (by omega)), by have := kt.2.2.1.2; rw [e1 1 (by omega)] at this; exact this⟩, fun q x y z => (kt.2.2.2 q x y z).trans (e1 q (by omega))⟩, fun _ => ?_⟩
    rw [(d.tk (t := t) (by omega)).1 _ (by omega) (by omega) (by omega), updI_s]
    omega
theorem TkM.step {m m' : Nat → Int} {t : Nat} (h : TkM m pool t) (h3 : m' 3 = m 3) (h0 : m' 0 = m 0) (h60 : m 0 ≤ 60) (h10 : m 3 ≤ 10) (h7 : m 7 ≤ m' 7) (h8 : m 8 ≤ m' 8) (hp : ∀ c : Nat, 1 ≤ c → (c : Int) < m 0 → m' (19 + 4 * c) = m (19 + 4 * c)) (hs : ∀ u : Nat, ¬ u = t → u ≤ 9 → sameTk m m' u) (ht : (t : Int) < m 3 → tkB m' pool t) : TkM m' pool t := by
  have q := h.1
  refine ⟨by omega, fun u hu => ?_⟩
  by_cases c : u = t
  · subst c; exact ⟨ht (by omega), fun z => absurd rfl z⟩
  · obtain ⟨d1, d2⟩ := h.2 u (by omega)
    have s := hs u c (by omega)
    exact ⟨d1.same s (by omega) h60 h7 h8 hp, fun z => (d2 z).same s⟩
/-- all that holds when a turn is through -/
def Aft (m m' pool : Nat → Int) (B : Int) : Prop := Mid m' pool B ∧ TkM m' pool 99 ∧ m' 3 = m 3 ∧ m' 7 = m 7 ∧ (m' 8 = m 8 ∧ m 1 ≤ m' 1)
theorem turnFin_ex (hPo : poolOk pool) (hk : InR sink) {m : Nat → Int} {B : Int} {t o p E : Nat} (ht : (t : Int) < m 3) (h : Mid m pool B) (hT : TkM m pool t) (hB : B ≤ 1800000000) (hn : m (1619 + 72 * t) = (o : Int) + 1) (hE : m (1617 + 72 * t) = E) (hp : p ≤ 12343) (hr : p < E → ∃ P : Nat, m (1616 + 72 * t) = P ∧ P ≤ p ∧ m (1615 + 72 * t) ≤ (p : Int) - P ∧ ∃ k, stsT pool k o p E) :
    ∃ m', turnFinR (shutsR pool sink 61) t E m p m' ∧ Aft m m' pool B := by
  obtain ⟨hM, k0, k1, k2, k3, k4, k5, k7⟩ := id h.1.1
  have e : ∀ q, ¬ q = 1611 + 72 * t → updI m (1611 + 72 * t) p q = m q := fun q a => updI_n a
  have hm : Mid (updI m (1611 + 72 * t) p) pool B := h.out ⟨by omega, by omega⟩ (by omega)
  have hb : tkB (updI m (1611 + 72 * t) p) pool t := by
    obtain ⟨a1, a2, a3, a4, a5, a6, ⟨n, a7, a8⟩, a9, a10⟩ := (hT.2 t ht).1
    unfold tkB
    rw [updI_s, e 8 (by omega), e _ (by omega), e _ (by omega), e _ (by omega), e _ (by omega), e _ (by omega), e _ (by omega), e _ (by omega), e _ (by omega), e _ (by omega), e _ (by omega), e _ (by omega), e _ (by omega)]
    refine ⟨a1, a2, a3, a4, a5, a6, ⟨n, a7, a8.1, fun k hk => ?_, fun k hk => ?_⟩, ⟨p, rfl, hp⟩, a10⟩
    · rw [e _ (by omega), e 0 (by omega)]; exact a8.2.1 k hk
    · have z1 := a8.2.1 (k + 1) hk
      rw [e (1620 + 72 * t + (k + 1)) (by omega), e (1620 + 72 * t + k) (by omega), e _ (by omega)]; exact a8.2.2 k hk
  have hT2 : TkM (updI m (1611 + 72 * t) p) pool t := hT.step (e 3 (by omega)) (e 0 (by omega)) k0.2 k3.2 (by rw [e 7 (by omega)]; exact Int.le_refl _) (by rw [e 8 (by omega)]; exact Int.le_refl _) (fun c _ hc => e _ (by omega)) (fun u hu hu9 => ⟨fun q a b c => e q (by omega), Or.inl (e _ (by omega))⟩) (fun _ => hb)
  by_cases c : p < E
  · refine ⟨_, ⟨h.1.1, hp, Or.inl ⟨c, rfl⟩⟩, hm, ⟨hT2.1, fun u hu => ⟨(hT2.2 u hu).1, fun _ => ?_⟩⟩, e 3 (by omega), e 7 (by omega), ⟨e 8 (by omega), by rw [e 1 (by omega)]; exact Int.le_refl _⟩⟩
    by_cases q : u = t
    · subst q
      intro _
      obtain ⟨P, r1, r2, r3, r4⟩ := hr c
      exact ⟨o, P, E, p, by rw [e _ (by omega)]; exact hn, by rw [e _ (by omega)]; exact r1, by rw [e _ (by omega)]; exact hE, updI_s, r2, by rw [e _ (by omega)]; exact r3, r4⟩
    · exact (hT2.2 u hu).2 q
  · obtain ⟨m', x1, x2, x3, x4⟩ := isOver_ex hPo hk (st := if cnt (faultB m t) (m 4).toNat = 0 then 1 else 2) (by rw [e 3 (by omega)]; exact ht) hm hT2 (by omega) (by split <;> decide)
    refine ⟨m', ⟨h.1.1, hp, Or.inr ⟨by omega, x1⟩⟩, x2, x3, ?_, ?_, ?_⟩
    · rw [x4.1 3 (Or.inr (Or.inl rfl)), updI_n (by omega), e 3 (by omega)]
    · rw [x4.1 7 (Or.inr (Or.inr (Or.inl rfl))), updI_n (by omega), e 7 (by omega)]
    · have y := x4.2.2.1.1
      rw [updI_n (by omega), e 1 (by omega)] at y
      rw [x4.1 8 (Or.inr (Or.inr (Or.inr (Or.inl rfl)))), updI_n (by omega), e 8 (by omega)]; exact ⟨rfl, y⟩
theorem turnLoop_ex (hPo : poolOk pool) (hk : InR sink) {t P E : Nat} (hPE : E ≤ P + 120) : ∀ (k : Nat) (m : Nat → Int) (B : Int) (o p : Nat), (t : Int) < m 3 → (E : Int) < m 8 → Mid m pool B → TkM m pool t → B + (E - p : Nat) ≤ 1800000000 → m (1619 + 72 * t) = (o : Int) + 1 → m (1616 + 72 * t) = P → m (1617 + 72 * t) = E → P ≤ p → m (1615 + 72 * t) ≤ (p : Int) - P → stsT pool k o p E →
    ∃ m', turnLoopR pool (closesR pool sink 91) (shutsR pool sink 61) t E k m p m' ∧ Aft m m' pool (B + (E - p : Nat))
  | 0, m, B, o, p, _, _, _, _, _, _, _, _, _, _, hT => absurd hT id
  | k + 1, m, B, o, p, ht, hE8, h, hT, hB, hn, hP, hE, hp, hd, hS => by
    obtain ⟨e, o', t1, t2, t3⟩ := hS
    obtain ⟨hM, k0, k1, k2, k3, k4, k5, k7⟩ := id h.1.1
    have hlt := stepK_lt t1
    have h8 := h.1.2.1.2.2
    have heE : e ≤ E := by rcases t3 with t3 | ⟨t3, _⟩ <;> omega
    have hbe := (stepK_skip t1).beh (E := E) heE (by rcases t3 with t3 | ⟨_, t3, _⟩; exact Or.inl t3; exact Or.inr t3)
    obtain ⟨f, m1, a, b, c, d, kt, ko⟩ := doesIn_ex hPo hk ht h hT (by omega) hn t1 (endC_nd t2) (by omega) (by omega)
    obtain ⟨kt3, kt7, kt8, ktq⟩ := kt
    have ht1 : (t : Int) < m1 3 := by omega
    obtain ⟨hM1, j0, j1, j2, j3, j4, j5, j7⟩ := id b.1.1
    have d1 : m1 (1615 + 72 * t) = m (1615 + 72 * t) := ktq _ (by omega) (by omega) (by omega)
    have d5 := (hT.2 t ht).1.2.2.2.2.1
    by_cases z : f = 0
    · subst z
      have e2 : ∀ q, ¬ q = 1615 + 72 * t → updI m1 (1615 + 72 * t) (m1 (1615 + 72 * t) + 1) q = m1 q := fun q a => updI_n a
      have hm : Mid (updI m1 (1615 + 72 * t) (m1 (1615 + 72 * t) + 1)) pool (B + 1) := b.out ⟨by omega, by omega⟩ (by omega)
      have hT2 : TkM (updI m1 (1615 + 72 * t) (m1 (1615 + 72 * t) + 1)) pool t := c.step (e2 3 (by omega)) (e2 0 (by omega)) j0.2 j3.2 (by rw [e2 7 (by omega)]; exact Int.le_refl _) (by rw [e2 8 (by omega)]; exact Int.le_refl _) (fun c _ hc => e2 _ (by omega)) (fun u hu hu9 => ⟨fun q a b c => e2 q (by omega), Or.inl (e2 _ (by omega))⟩) (fun _ => by
        obtain ⟨a1, a2, a3, a4, a5, a6, ⟨n, a7, a8⟩, a9, a10⟩ := (c.2 t ht1).1
        unfold tkB
        rw [updI_s, e2 8 (by omega), e2 _ (by omega), e2 _ (by omega), e2 _ (by omega), e2 _ (by omega), e2 _ (by omega), e2 _ (by omega), e2 _ (by omega), e2 _ (by omega), e2 _ (by omega), e2 _ (by omega), e2 _ (by omega), e2 _ (by omega)]
        refine ⟨a1, a2, a3, a4, ⟨by omega, by omega⟩, a6, ⟨n, a7, a8.1, fun k hk => ?_, fun k hk => ?_⟩, a9, a10⟩
        · rw [e2 _ (by omega), e2 0 (by omega)]; exact a8.2.1 k hk
        · have z1 := a8.2.1 (k + 1) hk
          rw [e2 (1620 + 72 * t + (k + 1)) (by omega), e2 (1620 + 72 * t + k) (by omega), e2 _ (by omega)]; exact a8.2.2 k hk)
      have g9 : updI m1 (1615 + 72 * t) (m1 (1615 + 72 * t) + 1) (1619 + 72 * t) = (o' : Int) + 1 := (e2 _ (by omega)).trans (ko rfl)
      have g6 : updI m1 (1615 + 72 * t) (m1 (1615 + 72 * t) + 1) (1616 + 72 * t) = P := (e2 _ (by omega)).trans ((ktq _ (by omega) (by omega) (by omega)).trans hP)
      have g7 : updI m1 (1615 + 72 * t) (m1 (1615 + 72 * t) + 1) (1617 + 72 * t) = E := (e2 _ (by omega)).trans ((ktq _ (by omega) (by omega) (by omega)).trans hE)
      have aft : ∀ m' B', Aft (updI m1 (1615 + 72 * t) (m1 (1615 + 72 * t) + 1)) m' pool B' → B' ≤ B + (E - p : Nat) → Aft m m' pool (B + (E - p : Nat)) := fun m' B' x y => ⟨x.1.up y, x.2.1, x.2.2.1.trans ((e2 3 (by omega)).trans kt3), x.2.2.2.1.trans ((e2 7 (by omega)).trans kt7), ⟨x.2.2.2.2.1.trans ((e2 8 (by omega)).trans kt8.1), by have y := x.2.2.2.2.2; rw [e2 1 (by omega)] at y; omega⟩⟩
      have fin : p < E ∧ e + 1 ≤ 12343 ∧ (e + 1 < E → ∃ P' : Nat, updI m1 (1615 + 72 * t) (m1 (1615 + 72 * t) + 1) (1616 + 72 * t) = P' ∧ P' ≤ e + 1 ∧ updI m1 (1615 + 72 * t) (m1 (1615 + 72 * t) + 1) (1615 + 72 * t) ≤ ((e + 1 : Nat) : Int) - P' ∧ ∃ k, stsT pool k o' (e + 1) E) := by
        refine ⟨by omega, by omega, fun g => ⟨P, g6, by omega, by rw [updI_s]; omega, ?_⟩⟩
        rcases t3 with t3 | ⟨t3, t4, t5⟩
        · omega
        · exact ⟨k, t5⟩
      by_cases dot : pool p = 46
      · obtain ⟨m', x1, x2⟩ := turnFin_ex hPo hk (by rw [e2 3 (by omega)]; exact ht1) hm hT2 (by omega) g9 g7 fin.2.1 fin.2.2
        exact ⟨m', Or.inr ⟨by omega, 0, m1, a, d, hM1, Or.inr ⟨rfl, Or.inl ⟨dot, by rw [hbe]; exact x1⟩⟩⟩, aft m' _ x2 (by omega)⟩
      · rcases t3 with rfl | ⟨t3, t4, t5⟩
        · obtain ⟨m', x1, x2⟩ := turnFin_ex hPo hk (by rw [e2 3 (by omega)]; exact ht1) hm hT2 (by omega) g9 g7 fin.2.1 fin.2.2
          refine ⟨m', Or.inr ⟨by omega, 0, m1, a, d, hM1, Or.inr ⟨rfl, Or.inr ⟨dot, ?_⟩⟩⟩, aft m' _ x2 (by omega)⟩
          rw [hbe]
          cases k with
          | zero => exact ⟨by omega, x1⟩
          | succ k => exact Or.inl ⟨by omega, x1⟩
        · clear fin
          obtain ⟨m', x1, x2⟩ := turnLoop_ex hPo hk hPE k _ (B + 1) o' (e + 1) (by rw [e2 3 (by omega)]; exact ht1) (by rw [e2 8 (by omega)]; omega) hm hT2 (by omega) g9 g6 g7 (by omega) (by rw [updI_s]; omega) t5
          exact ⟨m', Or.inr ⟨by omega, 0, m1, a, d, hM1, Or.inr ⟨rfl, Or.inr ⟨dot, by rw [hbe]; exact x1⟩⟩⟩, aft m' _ x2 (by omega)⟩
    · have e2 : ∀ q, ¬ q = 1618 + 72 * t → updI m1 (1618 + 72 * t) f q = m1 q := fun q a => updI_n a
      have hm : Mid (updI m1 (1618 + 72 * t) f) pool (B + 1) := b.out d (by omega)
      have hT2 : TkM (updI m1 (1618 + 72 * t) f) pool t := c.step (e2 3 (by omega)) (e2 0 (by omega)) j0.2 j3.2 (by rw [e2 7 (by omega)]; exact Int.le_refl _) (by rw [e2 8 (by omega)]; exact Int.le_refl _) (fun c _ hc => e2 _ (by omega)) (fun u hu hu9 => ⟨fun q a b c => e2 q (by omega), Or.inl (e2 _ (by omega))⟩) (fun _ => by
        obtain ⟨a1, a2, a3, a4, a5, a6, ⟨n, a7, a8⟩, a9, a10⟩ := (c.2 t ht1).1
        unfold tkB
        rw [e2 8 (by omega), e2 _ (by omega), e2 _ (by omega), e2 _ (by omega), e2 _ (by omega), e2 _ (by omega), e2 _ (by omega), e2 _ (by omega), e2 _ (by omega), e2 _ (by omega), e2 _ (by omega), e2 _ (by omega), e2 _ (by omega), e2 _ (by omega)]
        refine ⟨a1, a2, a3, a4, a5, a6, ⟨n, a7, a8.1, fun k hk => ?_, fun k hk => ?_⟩, a9, a10⟩
        · rw [e2 _ (by omega), e2 0 (by omega)]; exact a8.2.1 k hk
        · have z1 := a8.2.1 (k + 1) hk
          rw [e2 (1620 + 72 * t + (k + 1)) (by omega), e2 (1620 + 72 * t + k) (by omega), e2 _ (by omega)]; exact a8.2.2 k hk)
      obtain ⟨m', x1, x2, x3, x4⟩ := isOver_ex hPo hk (st := 2) (by rw [e2 3 (by omega)]; exact ht1) hm hT2 (by omega) (by decide)
      refine ⟨m', Or.inr ⟨by omega, f, m1, a, d, hM1, Or.inl ⟨z, x1⟩⟩, x2.up (by omega), x3, ?_, ?_, ?_⟩
      · rw [x4.1 3 (Or.inr (Or.inl rfl)), updI_n (by omega), e2 3 (by omega)]; exact kt3
      · rw [x4.1 7 (Or.inr (Or.inr (Or.inl rfl))), updI_n (by omega), e2 7 (by omega)]; exact kt7
      · have y := x4.2.2.1.1
        rw [updI_n (by omega), e2 1 (by omega)] at y
        rw [x4.1 8 (Or.inr (Or.inr (Or.inr (Or.inl rfl)))), updI_n (by omega), e2 8 (by omega)]; exact ⟨kt8.1, by omega⟩
theorem turn_ex (hPo : poolOk pool) (hk : InR sink) {m : Nat → Int} {B : Int} {t : Nat} (ht : (t : Int) < m 3) (h : Mid m pool B) (hT : TkM m pool 99) (hB : B ≤ 1700000000) (h7 : m 7 ≤ 1000000000) (hrd : m (1610 + 72 * t) = 0) :
    ∃ m', turnR pool (closesR pool sink 91) (shutsR pool sink 61) m t m' ∧ Mid m' pool (B + 120) ∧ TkM m' pool 99 ∧ m' 3 = m 3 ∧ m' 7 = m 7 + 1 ∧ (m' 8 = m 8 ∧ m 1 ≤ m' 1) := by
  obtain ⟨hM, k0, k1, k2, k3, k4, k5, k7⟩ := id h.1.1
  obtain ⟨a1, a2, a3, a4, a5, a6, ⟨n, a7, a8⟩, ⟨p0, a9, a9b⟩, P0, E0, a10⟩ := id (hT.2 t ht).1
  have h8 := h.1.2.1.2.2
  obtain ⟨o, P, E, p, r1, r2, r3, r4, r5, r6, r7⟩ := (hT.2 t ht).2 (by omega) hrd
  have t7 := hT.1
  have e : ∀ q, ¬ q = 7 → ¬ q = 1612 + 72 * t → ¬ q = 1613 + 72 * t → turnM m t q = m q := fun q a b c => by unfold turnM; rw [updI_n c, updI_n b, updI_n a]
  have e7 : turnM m t 7 = m 7 + 1 := by unfold turnM; rw [updI_n (by omega), updI_n (by omega), updI_s]
  have e2 : turnM m t (1612 + 72 * t) = m (1612 + 72 * t) + 1 := by unfold turnM; rw [updI_n (by omega), updI_s]
  have e3 : turnM m t (1613 + 72 * t) = m 7 + 1 := by unfold turnM; rw [updI_s]
  have hm : Mid (turnM m t) pool B := ((h.out (k := 7) (v := m 7 + 1) ⟨by omega, by omega⟩ (Or.inl rfl)).out (k := 1612 + 72 * t) (v := m (1612 + 72 * t) + 1) ⟨by omega, by omega⟩ (by omega)).out (k := 1613 + 72 * t) (v := m 7 + 1) ⟨by omega, by omega⟩ (by omega)
  have hT2 : TkM (turnM m t) pool t := (hT.weak k3.2 : TkM m pool t).step (e 3 (by omega) (by omega) (by omega)) (e 0 (by omega) (by omega) (by omega)) k0.2 k3.2 (by omega) (by rw [e 8 (by omega) (by omega) (by omega)]; exact Int.le_refl _) (fun c _ hc => e _ (by omega) (by omega) (by omega)) (fun u hu hu9 => ⟨fun q a b c => e q (by omega) (by omega) (by omega), Or.inl (e _ (by omega) (by omega) (by omega))⟩) (fun _ => by
    unfold tkB
    rw [e7, e2, e3, e 8 (by omega) (by omega) (by omega), e _ (by omega) (by omega) (by omega), e _ (by omega) (by omega) (by omega), e _ (by omega) (by omega) (by omega), e _ (by omega) (by omega) (by omega), e _ (by omega) (by omega) (by omega), e _ (by omega) (by omega) (by omega), e _ (by omega) (by omega) (by omega), e _ (by omega) (by omega) (by omega), e _ (by omega) (by omega) (by omega), e _ (by omega) (by omega) (by omega)]
    refine ⟨a1, a2, a3, ⟨⟨by omega, by omega⟩, ⟨by omega, Int.le_refl _⟩⟩, a5, a6, ⟨n, a7, a8.1, fun k hk => ?_, fun k hk => ?_⟩, ⟨p0, a9, a9b⟩, P0, E0, a10⟩
    · rw [e _ (by omega) (by omega) (by omega), e 0 (by omega) (by omega) (by omega)]; exact a8.2.1 k hk
    · have z1 := a8.2.1 (k + 1) hk
      rw [e (1620 + 72 * t + (k + 1)) (by omega) (by omega) (by omega), e (1620 + 72 * t + k) (by omega) (by omega) (by omega), e _ (by omega) (by omega) (by omega)]; exact a8.2.2 k hk)
  have hx := r7
  obtain ⟨kk, hx⟩ := hx
  have hlx := stsT_lt hx
  by_cases c : fineV (turnM m t) t = true
  · obtain ⟨m', x1, x2⟩ := turnLoop_ex hPo hk (t := t) (P := P) (E := E) (by omega) kk (turnM m t) B o p (by rw [e 3 (by omega) (by omega) (by omega)]; exact ht) (by rw [e 8 (by omega) (by omega) (by omega)]; omega) hm hT2 (by omega) (by rw [e _ (by omega) (by omega) (by omega)]; exact r1) (by rw [e _ (by omega) (by omega) (by omega)]; exact r2) (by rw [e _ (by omega) (by omega) (by omega)]; exact r3) r5 (by rw [e _ (by omega) (by omega) (by omega)]; exact r6) hx
    refine ⟨m', ⟨by omega, hm.1.1, ⟨n, a8.1.2, a7⟩, Or.inr ⟨c, p, E, kk, r3, r4, by omega, by omega, x1⟩⟩, x2.1.up (by omega), x2.2.1, ?_, ?_, ?_⟩
    · rw [x2.2.2.1, e 3 (by omega) (by omega) (by omega)]
    · rw [x2.2.2.2.1, e7]
    · have y := x2.2.2.2.2
      rw [e 8 (by omega) (by omega) (by omega), e 1 (by omega) (by omega) (by omega)] at y; exact y
  · obtain ⟨m', x1, x2, x3, x4⟩ := isOver_ex hPo hk (st := 3) (by rw [e 3 (by omega) (by omega) (by omega)]; exact ht) hm hT2 (by omega) (by decide)
    refine ⟨m', ⟨by omega, hm.1.1, ⟨n, a8.1.2, a7⟩, Or.inl ⟨by simpa using c, x1⟩⟩, x2.up (by omega), x3, ?_, ?_, ?_⟩
    · rw [x4.1 3 (Or.inr (Or.inl rfl)), updI_n (by omega), e 3 (by omega) (by omega) (by omega)]
    · rw [x4.1 7 (Or.inr (Or.inr (Or.inl rfl))), updI_n (by omega), e7]
    · have y := x4.2.2.1.1
      rw [updI_n (by omega), e 1 (by omega) (by omega) (by omega)] at y
      rw [x4.1 8 (Or.inr (Or.inr (Or.inr (Or.inl rfl)))), updI_n (by omega), e 8 (by omega) (by omega) (by omega)]; exact ⟨rfl, y⟩
theorem nxL_ready {m : Nat → Int} : ∀ (n t : Nat) (f : Int), (0 ≤ f → m (1610 + 72 * f.toNat) = 0) → 0 ≤ nxL m n t f → m (1610 + 72 * (nxL m n t f).toNat) = 0
  | 0, t, f, h, g => h g
  | n + 1, t, f, h, g => by
    unfold nxL at g ⊢
    refine nxL_ready n (t + 1) _ (fun z => ?_) g
    split
    · rename_i c
      have := c.1
      rw [show ((t : Int)).toNat = t by omega]
      simpa [readyB] using this
    · rename_i c
      rw [if_neg c] at z
      exact h z
theorem tick_ex (hPo : poolOk pool) {m : Nat → Int} {B : Int} (h : Mid m pool B) (hT : TkM m pool 99) (hB : B ≤ 1700000000) (h7 : m 7 ≤ 1000000000) :
    ∃ m', tickR pool m m' ∧ Mid m' pool (B + 120) ∧ TkM m' pool 99 ∧ m' 3 = m 3 ∧ (m 7 ≤ m' 7 ∧ m' 7 ≤ m 7 + 1) ∧ (m' 8 = m 8 ∧ m 1 ≤ m' 1) := by
  have k3 := h.1.1.2.2.2.2.1
  have rn := nextV_r h.1.1
  have hp : ∀ t : Nat, (t : Int) < m 3 → -99 ≤ m (1609 + 72 * t) ∧ m (1609 + 72 * t) ≤ 99 := fun t ht => (hT.2 t ht).1.1
  by_cases c : nextV m < 0
  · exact ⟨m, ⟨h.1.1, hp, Or.inl ⟨c, rfl⟩⟩, h.up (by omega), hT, rfl, ⟨Int.le_refl _, by omega⟩, ⟨rfl, Int.le_refl _⟩⟩
  · have hr := nxL_ready (m := m) (m 3).toNat 0 (-5) (fun z => absurd z (by decide)) (by have : nextV m = nxL m (m 3).toNat 0 (-5) := rfl; omega)
    obtain ⟨m', a, b, c2, d, e, f⟩ := turn_ex hPo (sink := nextV m) ⟨by omega, by omega⟩ (t := (nextV m).toNat) (by omega) h hT hB h7 hr
    exact ⟨m', ⟨h.1.1, hp, Or.inr ⟨by omega, a⟩⟩, b, c2, d, ⟨by omega, by omega⟩, f⟩
theorem ticks_ex (hPo : poolOk pool) : ∀ (n : Nat) (m : Nat → Int) (B : Int), Mid m pool B → TkM m pool 99 → B + 120 * n ≤ 1700000000 → m 7 + n ≤ 1000000000 →
    ∃ k m', ticksR pool n m k m' ∧ k ≤ n ∧ Mid m' pool (B + 120 * n) ∧ TkM m' pool 99 ∧ m' 3 = m 3 ∧ m' 7 ≤ m 7 + n ∧ m' 8 = m 8 ∧ m 1 ≤ m' 1
  | 0, m, B, h, hT, hB, h7 => ⟨0, m, ⟨rfl, rfl⟩, Nat.le_refl _, h.up (by omega), hT, rfl, by omega, rfl, Int.le_refl _⟩
  | n + 1, m, B, h, hT, hB, h7 => by
    obtain ⟨m1, a, b, c, d, e, f⟩ := tick_ex hPo h hT (by omega) (by omega)
    by_cases z : nextV m < 0
    · exact ⟨0, m1, ⟨m1, a, Or.inl ⟨z, rfl, rfl⟩⟩, by omega, b.up (by omega), c, d, by omega, f.1, f.2⟩
    · obtain ⟨k, m', a2, k2, b2, c2, d2, e2, f2⟩ := ticks_ex hPo n m1 (B + 120) b c (by omega) (by omega)
      exact ⟨k + 1, m', ⟨m1, a, Or.inr ⟨by omega, k, rfl, a2⟩⟩, by omega, b2.up (by omega), c2, d2.trans d, by omega, f2.1.trans f.1, by omega⟩
end TU

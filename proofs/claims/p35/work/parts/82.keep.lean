/-! ===== what the reference's calls keep ===== -/
theorem likeAt.z {pool pool' : Nat → Int} {b : Int} (hp : ∀ q : Nat, (q : Int) < b → pool' q = pool q) {p E : Nat} (hE : (E : Int) < b) : likeAt pool pool' 0 p E := fun j _ h => hp (j + 0) (by omega)
theorem textT.pool {b b' : Int} {pool pool' : Nat → Int} {P E : Nat} (h : textT b pool P E) (hp : ∀ q : Nat, (q : Int) < b → pool' q = pool q) (hb : b ≤ b') : textT b' pool' P E := by
  obtain ⟨h1, h2, h3⟩ := h
  refine ⟨h1, h2, ?_⟩
  rcases h3 with h3 | ⟨h3, n, h4⟩
  · exact Or.inl h3
  · exact Or.inr ⟨by omega, n, stsC_at n P E (likeAt.z hp h3) h4⟩
theorem Mid.like {m m' pool pool' : Nat → Int} {B : Int} (h : Mid m pool B) (hM' : ∀ q, InR (m' q)) (hA : ∀ q, (q = 0 ∨ q = 1 ∨ q = 2 ∨ q = 4 ∨ q = 6 ∨ (18 ≤ q ∧ q < 1518)) → m' q = m q) (h3 : 0 ≤ m' 3 ∧ m' 3 ≤ 10) (h5 : m' 5 = m 5 ∨ m' 5 = 0) (h8 : m 8 ≤ m' 8 ∧ m' 8 ≤ 12200) (hp : ∀ q : Nat, (q : Int) < m 8 → pool' q = pool q) : Mid m' pool' B := by
  obtain ⟨⟨⟨hM, k0, k1, k2, k3, k4, k5, k7⟩, g2, g3, g4, g5, g6⟩, ⟨s1, s2, s3⟩, nc, ns⟩ := h
  have e0 := hA 0 (by omega)
  have e1 := hA 1 (by omega)
  have e2 := hA 2 (by omega)
  have e4 := hA 4 (by omega)
  have e6 := hA 6 (by omega)
  have e : ∀ q, 18 ≤ q → q < 1518 → m' q = m q := fun q a b => hA q (by omega)
  have c : cnt (clsB m') (m 1).toNat = cnt (clsB m) (m 1).toNat := cnt_congr _ (fun q hq => by unfold clsB; rw [e _ (by omega) (by omega)])
  refine ⟨⟨⟨hM', ?_⟩, ?_⟩, ?_, ?_, ?_⟩
  · rw [e0, e1, e2, e4]
    exact ⟨k0, k1, k2, h3, k4, by omega, fun t ht => by rw [e _ (by omega) (by omega)]; exact k7 t ht⟩
  · rw [e0, e1, e2, e4, e6, c]
    refine ⟨⟨g2.1, by omega, h8.2⟩, fun t ht => ?_, ⟨g4.1, g4.2.1, by omega⟩, g5, fun t j ht hj => by rw [e _ (by omega) (by omega)]; exact g6 t j ht hj⟩
    have z := g3 t ht
    unfold thOk at z ⊢
    rw [e (258 + 14 * t) (by omega) (by omega), e (259 + 14 * t) (by omega) (by omega), e (260 + 14 * t) (by omega) (by omega), e (261 + 14 * t) (by omega) (by omega), e (262 + 14 * t) (by omega) (by omega), e (263 + 14 * t) (by omega) (by omega), e0, e6]
    obtain ⟨z1, z2, z3, P, E, z4, z5, z6⟩ := z
    exact ⟨z1, z2, z3, P, E, z4, z5, z6.pool hp h8.1⟩
  · refine ⟨by rw [e _ (by omega) (by omega)]; exact s1, by rw [e _ (by omega) (by omega)]; exact s2, fun u hu => ?_⟩
    rw [e0] at hu
    obtain ⟨a, b⟩ := s3 u hu
    rw [e (18 + 4 * u) (by omega) (by omega), e (19 + 4 * u) (by omega) (by omega), e (20 + 4 * u) (by omega) (by omega), e6]
    refine ⟨a, fun g => ?_⟩
    obtain ⟨b1, b2, b3⟩ := b g
    rw [e (18 + 4 * (m (19 + 4 * u)).toNat) (by omega) (by omega)]
    exact ⟨b1, b2, b3⟩
  · intro t ht
    rw [e1] at ht
    rw [e _ (by omega) (by omega)]; exact nc t ht
  · intro u hu
    rw [e0] at hu
    rw [e _ (by omega) (by omega)]; exact ns u hu
theorem tkB.pool {m pool pool' : Nat → Int} {t : Nat} (h : tkB m pool t) (hp : ∀ q : Nat, (q : Int) < m 8 → pool' q = pool q) : tkB m pool' t := by
  obtain ⟨a1, a2, a3, a4, a5, a6, a7, a9, P, E, b1, b2, b3, b4, b5, k, b6⟩ := h
  exact ⟨a1, a2, a3, a4, a5, a6, a7, a9, P, E, b1, b2, b3, b4, b5, k, stsT_at k 0 P E (likeAt.z hp b3) b6⟩
theorem rdOk.pool {m pool pool' : Nat → Int} {t : Nat} (h : rdOk m pool t) (hb : tkB m pool t) (hp : ∀ q : Nat, (q : Int) < m 8 → pool' q = pool q) : rdOk m pool' t := by
  intro z
  obtain ⟨o, P, E, p, b1, b2, b3, b4, b5, b6, k, b7⟩ := h z
  obtain ⟨a1, a2, a3, a4, a5, a6, a7, a9, P', E', c1, c2, c3, -⟩ := hb
  have : E = E' := by omega
  subst this
  exact ⟨o, P, E, p, b1, b2, b3, b4, b5, b6, k, stsT_at k o p E (likeAt.z hp c3) b7⟩
theorem TkM.like {m m' pool pool' : Nat → Int} (h : TkM m pool 99) (h3 : m 3 ≤ 10) (h0 : m 0 ≤ m' 0) (h60 : m 0 ≤ 60) (h7 : m 7 ≤ m' 7) (h8 : m 8 ≤ m' 8) (hpar : ∀ c : Nat, 1 ≤ c → (c : Int) < m 0 → m' (19 + 4 * c) = m (19 + 4 * c)) (hp : ∀ q : Nat, (q : Int) < m 8 → pool' q = pool q) (hs : ∀ t : Nat, (t : Int) < m' 3 → ((t : Int) < m 3 ∧ sameTk m m' t) ∨ (tkB m' pool' t ∧ rdOk m' pool' t)) : TkM m' pool' 99 := by
  have q7 := h.1
  refine ⟨by omega, fun t ht => ?_⟩
  rcases hs t ht with ⟨a, b⟩ | ⟨a, b⟩
  · obtain ⟨c, d⟩ := h.2 t a
    have d' := d (by omega)
    exact ⟨(c.pool hp).same b h0 h60 h7 h8 hpar, fun _ => (d'.pool c hp).same b⟩
  · exact ⟨a, fun _ => b⟩
def All (m pool : Nat → Int) (B T : Int) : Prop := Mid m pool B ∧ TkM m pool 99 ∧ m 7 ≤ T ∧ m 8 ≤ 121 * (m 1 + m 3) ∧ GP pool (m 8).toNat
theorem All.up {m pool : Nat → Int} {B T B' T' : Int} (h : All m pool B T) (hb : B ≤ B') (ht : T ≤ T') : All m pool B' T' := ⟨h.1.up hb, h.2.1, by have := h.2.2.1; omega, h.2.2.2⟩
theorem All.pool {m pool pool' : Nat → Int} {B T : Int} (h : All m pool B T) (hp : ∀ q : Nat, (q : Int) < m 8 → pool' q = pool q) : All m pool' B T := by
  have g := h.1.1.2.1
  have k0 := h.1.1.1.2.1
  have k3 := h.1.1.1.2.2.2.2.1
  refine ⟨h.1.like h.1.1.1.1 (fun _ _ => rfl) k3 (Or.inl rfl) ⟨Int.le_refl _, g.2.2⟩ hp, ?_, h.2.2.1, h.2.2.2.1, h.2.2.2.2.c (fun q hq => hp q (by omega))⟩
  exact h.2.1.like k3.2 (Int.le_refl _) k0.2 (Int.le_refl _) (Int.le_refl _) (fun _ _ _ => rfl) hp (fun t ht => Or.inl ⟨ht, fun _ _ _ _ => rfl, Or.inl rfl⟩)
/-- a counter, or the count of a call's faults -/
theorem All.low {m pool : Nat → Int} {B T : Int} (h : All m pool B T) {k : Nat} {v : Int} (hv : InR v) (hk : (10 ≤ k ∧ k < 18) ∨ (k = 5 ∧ v = 0)) : All (updI m k v) pool B T := by
  have g := h.1.1.2.1
  have k0 := h.1.1.1.2.1
  have k3 := h.1.1.1.2.2.2.2.1
  have e : ∀ q, ¬ q = k → updI m k v q = m q := fun q a => updI_n a
  refine ⟨h.1.like (updM_in h.1.1.1.1 hv) (fun q hq => e q (by omega)) (by rw [e 3 (by omega)]; exact k3) ?_ (by rw [e 8 (by omega)]; exact ⟨Int.le_refl _, g.2.2⟩) (fun _ _ => rfl), ?_, ?_⟩
  · rcases hk with hk | ⟨rfl, rfl⟩
    · exact Or.inl (e 5 (by omega))
    · exact Or.inr updI_s
  · exact h.2.1.like k3.2 (by rw [e 0 (by omega)]; exact Int.le_refl _) k0.2 (by rw [e 7 (by omega)]; exact Int.le_refl _) (by rw [e 8 (by omega)]; exact Int.le_refl _) (fun c _ _ => e _ (by omega)) (fun _ _ => rfl) (fun t ht => Or.inl ⟨by rw [e 3 (by omega)] at ht; exact ht, fun q _ _ _ => e q (by omega), Or.inl (e _ (by omega))⟩)
  · rw [e 7 (by omega), e 8 (by omega), e 1 (by omega), e 3 (by omega)]; exact h.2.2
/-- what closers and shuttings did -/
theorem All.es {m m' pool : Nat → Int} {B B' T : Int} (h : All m pool B T) (hi : Inv m' pool B') (hs : ScI m') (k : Es m m') : All m' pool B' T := by
  have k0 := h.1.1.1.2.1
  have k3 := h.1.1.1.2.2.2.2.1
  have e3 : m' 3 = m 3 := k.1 3 (Or.inr (Or.inl rfl))
  have e7 : m' 7 = m 7 := k.1 7 (Or.inr (Or.inr (Or.inl rfl)))
  have e8 : m' 8 = m 8 := k.1 8 (Or.inr (Or.inr (Or.inr (Or.inl rfl))))
  have k1 := k.2.2.1
  obtain ⟨hm, ht, h7, h8⟩ := h
  exact ⟨⟨hi, hs, k.2.2.2.1 hm.2.2.1, k.ns hm.2.2.2 k0.2⟩, ht.es k k3.2 k0.2, by omega, by omega, by rw [e8]; exact h8.2⟩
/-- a cell of a task -/
theorem All.task {m pool : Nat → Int} {B T : Int} (h : All m pool B T) {k t : Nat} {v : Int} (hv : InR v) (ht : (t : Int) < m 3) (hk : (k = 1614 + 72 * t ∧ v = 1) ∨ (k = 1609 + 72 * t ∧ -99 ≤ v ∧ v ≤ 99)) : All (updI m k v) pool B T := by
  have g := h.1.1.2.1
  have k0 := h.1.1.1.2.1
  have k3 := h.1.1.1.2.2.2.2.1
  have e : ∀ q, ¬ q = k → updI m k v q = m q := fun q a => updI_n a
  refine ⟨h.1.like (updM_in h.1.1.1.1 hv) (fun q hq => e q (by omega)) (by rw [e 3 (by omega)]; exact k3) (Or.inl (e 5 (by omega))) (by rw [e 8 (by omega)]; exact ⟨Int.le_refl _, g.2.2⟩) (fun _ _ => rfl), ?_, by rw [e 7 (by omega), e 8 (by omega), e 1 (by omega), e 3 (by omega)]; exact h.2.2⟩
  refine h.2.1.like k3.2 (by rw [e 0 (by omega)]; exact Int.le_refl _) k0.2 (by rw [e 7 (by omega)]; exact Int.le_refl _) (by rw [e 8 (by omega)]; exact Int.le_refl _) (fun c _ _ => e _ (by omega)) (fun _ _ => rfl) (fun u hu => ?_)
  rw [e 3 (by omega)] at hu
  rcases hk with ⟨rfl, rfl⟩ | ⟨rfl, hk⟩
  · refine Or.inl ⟨hu, fun q a b c => e q (by omega), ?_⟩
    by_cases z : u = t
    · subst z; exact Or.inr updI_s
    · exact Or.inl (e _ (by omega))
  · by_cases z : u = t
    · subst z
      obtain ⟨c, d⟩ := h.2.1.2 u hu
      have d' := d (by omega)
      refine Or.inr ⟨?_, ?_⟩
      · obtain ⟨a1, a2, a3, a4, a5, a6, ⟨n, a7, a8⟩, a9, a10⟩ := c
        unfold tkB
        rw [updI_s, e 7 (by omega), e 8 (by omega), e (1610 + 72 * u) (by omega), e (1614 + 72 * u) (by omega), e (1612 + 72 * u) (by omega), e (1613 + 72 * u) (by omega), e (1615 + 72 * u) (by omega), e (1608 + 72 * u) (by omega), e (1620 + 72 * u) (by omega), e (1619 + 72 * u) (by omega), e (1611 + 72 * u) (by omega), e (1616 + 72 * u) (by omega), e (1617 + 72 * u) (by omega)]
        refine ⟨hk, a2, a3, a4, a5, a6, ⟨n, a7, a8.1, fun k hk => ?_, fun k hk => ?_⟩, a9, a10⟩
        · rw [e _ (by omega), e 0 (by omega)]; exact a8.2.1 k hk
        · have z1 := a8.2.1 (k + 1) hk
          rw [e (1620 + 72 * u + (k + 1)) (by omega), e (1620 + 72 * u + k) (by omega), e _ (by omega)]; exact a8.2.2 k hk
      · unfold rdOk at d' ⊢
        rw [e (1610 + 72 * u) (by omega), e (1615 + 72 * u) (by omega), e (1619 + 72 * u) (by omega), e (1611 + 72 * u) (by omega), e (1616 + 72 * u) (by omega), e (1617 + 72 * u) (by omega)]
        exact d'
    · exact Or.inl ⟨hu, fun q a b c => e q (by omega), Or.inl (e _ (by omega))⟩
/-- a scope comes by a call -/
theorem All.opens {m pool : Nat → Int} {B T : Int} (h : All m pool B T) {C p : Nat} {t : Int} (hC : m 0 = (C : Int)) (hC2 : C ≤ 59) (hp : p < C) (hp0 : m (18 + 4 * p) = 0) (ht : InR t) (hB : B ≤ 2000000000) : All (opensM m C p t) pool (B + 1) T := by
  obtain ⟨o0, o1, o2, o3, o4, o6, oe⟩ := opensM_at (m := m) (C := C) (p := (p : Int)) (t := t)
  have k0 := h.1.1.1.2.1
  have k3 := h.1.1.1.2.2.2.2.1
  refine ⟨mid_opens h.1 hC hC2 hp hp0 ht hB, ?_, by rw [oe 7 (by omega) (by omega) (by omega), oe 8 (by omega) (by omega) (by omega), oe 1 (by omega) (by omega) (by omega), oe 3 (by omega) (by omega) (by omega)]; exact h.2.2⟩
  exact h.2.1.like k3.2 (by rw [o0]; omega) k0.2 (by rw [oe 7 (by omega) (by omega) (by omega)]; exact Int.le_refl _) (by rw [oe 8 (by omega) (by omega) (by omega)]; exact Int.le_refl _) (fun c _ _ => oe _ (by omega) (by omega) (by omega)) (fun _ _ => rfl) (fun u hu => Or.inl ⟨by rw [oe 3 (by omega) (by omega) (by omega)] at hu; exact hu, fun q _ _ _ => oe q (by omega) (by omega) (by omega), Or.inl (oe _ (by omega) (by omega) (by omega))⟩)
/-- the pool's end goes up, over a text that was laid there -/
theorem All.grow {m pool pool' : Nat → Int} {B T b : Int} (h : All m pool B T) (hb : m 8 ≤ b ∧ b ≤ 12200) (hp : ∀ q : Nat, (q : Int) < m 8 → pool' q = pool q) : Mid (updI m 8 b) pool' B ∧ TkM (updI m 8 b) pool' 99 := by
  have g := h.1.1.2.1
  have k0 := h.1.1.1.2.1
  have k3 := h.1.1.1.2.2.2.2.1
  have e : ∀ q, ¬ q = 8 → updI m 8 b q = m q := fun q a => updI_n a
  refine ⟨h.1.like (updM_in h.1.1.1.1 ⟨by omega, by omega⟩) (fun q hq => e q (by omega)) (by rw [e 3 (by omega)]; exact k3) (Or.inl (e 5 (by omega))) (by rw [updI_s]; exact hb) hp, ?_⟩
  exact h.2.1.like k3.2 (by rw [e 0 (by omega)]; exact Int.le_refl _) k0.2 (by rw [e 7 (by omega)]; exact Int.le_refl _) (by rw [updI_s]; exact hb.1) (fun c _ _ => e _ (by omega)) hp (fun u hu => Or.inl ⟨by rw [e 3 (by omega)] at hu; exact hu, fun q _ _ _ => e q (by omega), Or.inl (e _ (by omega))⟩)
theorem pooledP_at {pool tape : Nat → Int} {p a b : Nat} (q : Nat) : pooledP pool tape p a b q = if q = p + (b - a) then 0 else if p ≤ q ∧ q < p + (b - a) then tape (a + (q - p)) else pool q := by
  unfold pooledP updI
  by_cases c : q = p + (b - a)
  · rw [if_pos c, if_pos c]
  · rw [if_neg c, if_neg c]; rfl
theorem pooledP_low {pool tape : Nat → Int} {p a b : Nat} {q : Nat} (h : q < p) : pooledP pool tape p a b q = pool q := by
  rw [pooledP_at, if_neg (by omega), if_neg (by omega)]
theorem pooledP_ok {pool tape : Nat → Int} (hp : poolOk pool) (ht : bytesOk tape) {p a b : Nat} : poolOk (pooledP pool tape p a b) := by
  intro q
  rw [pooledP_at]
  split
  · decide
  · split
    · exact ht _
    · exact hp q
/-! the same text further ahead -/
section DN
variable {sr sr' : Nat → Int} {d : Nat}
theorem numS_dn {p e k : Nat} (h : likeAt sr sr' d p e) (n : numS sr' (p + d) (e + d) k) : numS sr p e k := by
  obtain ⟨n1, n2, n3⟩ := n
  exact ⟨by omega, by omega, fun j a b => by rw [← h j a (by omega)]; exact n3 _ (by omega) (by omega)⟩
theorem sgnS_dn {p e : Nat} (h : likeAt sr sr' d p e) (n : sgnS sr' (p + d) (e + d)) : sgnS sr p e := by
  have hl := sgnS_lt n
  rcases n with ⟨n1, n2⟩ | n
  · refine Or.inl ⟨by rw [← h p (by omega) (by omega)]; exact n1, numS_dn (d := d) (h.sub (by omega) (by omega)) ?_⟩
    rw [show p + 1 + d = p + d + 1 by omega]; exact n2
  · exact Or.inr (numS_dn h n)
theorem namS_dn {p e : Nat} (h : likeAt sr sr' d p e) (n : namS sr' (p + d) (e + d)) : namS sr p e := by
  obtain ⟨n1, n2, n3, n4⟩ := n
  refine ⟨by omega, by omega, fun j a b => by rw [← h j a (by omega)]; exact n3 _ (by omega) (by omega), ?_⟩
  rcases n4 with n4 | n4
  · exact Or.inl (by omega)
  · exact Or.inr (by rw [← h e (by omega) (by omega)]; exact n4)
theorem stepT_dn {s1 s2 : Nat → Nat → Prop} {p e : Nat} (h : likeAt sr sr' d p e) (hs : ∀ a b, p ≤ a → b ≤ e → s2 (a + d) (b + d) → s1 a b) (k : stepT sr' s2 (p + d) (e + d)) : stepT sr s1 p e := by
  have hlt := stepT_lt k
  have hp : sr' (p + d) = sr p := h p (by omega) (by omega)
  rcases k with ⟨k1, k2, k3, k4⟩ | ⟨k1, k2⟩ | ⟨k1, q', k2, k3⟩ | ⟨k1, k2⟩ | ⟨k1, q', k2, k3, k4⟩ | ⟨k1, k2, k3⟩ | ⟨k1, k2⟩
  · have hl := sgnS_lt k4
    have h1 : sr' (p + d + 1) = sr (p + 1) := by rw [show p + d + 1 = p + 1 + d by omega]; exact h _ (by omega) (by omega)
    have h2 : sr' (p + d + 2) = sr (p + 2) := by rw [show p + d + 2 = p + 2 + d by omega]; exact h _ (by omega) (by omega)
    refine Or.inl ⟨hp.symm.trans k1, by rw [← h1]; exact k2, h2.symm.trans k3, sgnS_dn (d := d) (h.sub (by omega) (by omega)) ?_⟩
    rw [show p + 3 + d = p + d + 3 by omega]; exact k4
  · refine Or.inr (Or.inl ⟨hp.symm.trans k1, numS_dn (d := d) (h.sub (by omega) (by omega)) ?_⟩)
    rw [show p + 1 + d = p + d + 1 by omega]; exact k2
  · have hn := k2.1
    obtain ⟨q, rfl⟩ : ∃ q, q' = q + d := ⟨q' - d, by omega⟩
    have hqe : q ≤ e := by rcases k3 with ⟨k3, _⟩ | ⟨_, r, _, k4, _, k5⟩ <;> omega
    refine Or.inr (Or.inr (Or.inl ⟨hp.symm.trans k1, q, namS_dn (d := d) (h.sub (by omega) (by omega)) ?_, ?_⟩))
    · rw [show p + 1 + d = p + d + 1 by omega]; exact k2
    · rcases k3 with ⟨k3, k4⟩ | ⟨k3, r', k4, k5, k6, k7⟩
      · exact Or.inl ⟨by omega, by rw [← h q (by omega) (by omega)]; exact k4⟩
      · obtain ⟨r, rfl⟩ : ∃ r, r' = r + d := ⟨r' - d, by omega⟩
        refine Or.inr ⟨(h q (by omega) (by omega)).symm.trans k3, r, hs _ _ (by omega) (by omega) ?_, by omega, (h r (by omega) (by omega)).symm.trans k6, by omega⟩
        rw [show q + 1 + d = q + d + 1 by omega]; exact k4
  · refine Or.inr (Or.inr (Or.inr (Or.inl ⟨hp.symm.trans k1, namS_dn (d := d) (h.sub (by omega) (by omega)) ?_⟩)))
    rw [show p + 1 + d = p + d + 1 by omega]; exact k2
  · have hn := k2.1
    have hm := k4.1
    obtain ⟨q, rfl⟩ : ∃ q, q' = q + d := ⟨q' - d, by omega⟩
    refine Or.inr (Or.inr (Or.inr (Or.inr (Or.inl ⟨hp.symm.trans k1, q, namS_dn (d := d) (h.sub (by omega) (by omega)) ?_, (h q (by omega) (by omega)).symm.trans k3, numS_dn (d := d) (h.sub (by omega) (by omega)) ?_⟩))))
    · rw [show p + 1 + d = p + d + 1 by omega]; exact k2
    · rw [show q + 1 + d = q + d + 1 by omega]; exact k4
  · refine Or.inr (Or.inr (Or.inr (Or.inr (Or.inr (Or.inl ⟨hp.symm.trans k1, ?_, by omega⟩)))))
    rw [← h (p + 1) (by omega) (by omega), show p + 1 + d = p + d + 1 by omega]
    exact k2
  · exact Or.inr (Or.inr (Or.inr (Or.inr (Or.inr (Or.inr ⟨hp.symm.trans k1, by omega⟩)))))
theorem stepQ_dn {s1 s2 : Nat → Nat → Prop} {p e : Nat} (h : likeAt sr sr' d p e) (hs : ∀ a b, p ≤ a → b ≤ e → s2 (a + d) (b + d) → s1 a b) (k : stepQ sr' s2 (p + d) (e + d)) : stepQ sr s1 p e := by
  rcases k with k | ⟨k1, k2, k3, q', k4, k5, k6⟩
  · exact Or.inl (stepT_dn h hs k)
  · have hl := sgnS_lt k4
    have hm := stepT_lt k6
    obtain ⟨q, rfl⟩ : ∃ q, q' = q + d := ⟨q' - d, by omega⟩
    have h1 : sr' (p + d + 1) = sr (p + 1) := by rw [show p + d + 1 = p + 1 + d by omega]; exact h _ (by omega) (by omega)
    have h2 : sr' (p + d + 2) = sr (p + 2) := by rw [show p + d + 2 = p + 2 + d by omega]; exact h _ (by omega) (by omega)
    refine Or.inr ⟨(h p (by omega) (by omega)).symm.trans k1, by rw [← h1]; exact k2, h2.symm.trans k3, q, sgnS_dn (d := d) (h.sub (by omega) (by omega)) ?_, (h q (by omega) (by omega)).symm.trans k5, stepT_dn (d := d) (h.sub (by omega) (by omega)) (fun a b x y => hs a b (by omega) (by omega)) ?_⟩
    · rw [show p + 3 + d = p + d + 3 by omega]; exact k4
    · rw [show q + 1 + d = q + d + 1 by omega]; exact k6
theorem stsC_dn : ∀ (n p E : Nat), likeAt sr sr' d p E → stsC sr' n (p + d) (E + d) → stsC sr n p E
  | 0, _, _, _, k => absurd k id
  | n + 1, p, E, h, k => by
    obtain ⟨e', k1, k2, k3⟩ := k
    have hl := stepQ_lt k1
    obtain ⟨e, rfl⟩ : ∃ e, e' = e + d := ⟨e' - d, by omega⟩
    have he : e ≤ E := by rcases k3 with k3 | ⟨k3, _⟩ <;> omega
    refine ⟨e, stepQ_dn (d := d) (h.sub (by omega) he) (fun a b x y z => stsC_dn n a b (h.sub (by omega) (by omega)) z) k1, by rw [← h e (by omega) he]; exact k2, ?_⟩
    rcases k3 with k3 | ⟨k3, k4, k5⟩
    · exact Or.inl (by omega)
    · refine Or.inr ⟨by omega, (h e (by omega) he).symm.trans k4, stsC_dn n (e + 1) E (h.sub (by omega) (by omega)) ?_⟩
      rw [show e + 1 + d = e + d + 1 by omega]; exact k5
end DN
theorem pooledP_cl {pool tape : Nat → Int} {p a b i : Nat} (hi : i ≤ b - a) (hab : a ≤ b) : pooledP pool tape p a b (p + i) = clip tape b (a + i) := by
  rw [pooledP_at]
  unfold clip
  by_cases c : i = b - a
  · rw [if_pos (by omega), if_neg (by omega)]
  · rw [if_neg (by omega), if_pos (by omega), if_pos (by omega)]
    congr 1; omega
/-- what was read on the tape lies in the pool then -/
theorem pooledC {pool tape : Nat → Int} {p a b : Nat} (hab : a ≤ b) (h : someC (clip tape b) a b) : someC (pooledP pool tape p a b) p (p + (b - a)) := by
  obtain ⟨n, h⟩ := h
  refine ⟨n, ?_⟩
  by_cases c : a ≤ p
  · have z := stsC_at (sr' := pooledP pool tape p a b) (d := p - a) n a b (fun j h1 h2 => by
      have := pooledP_cl (pool := pool) (tape := tape) (p := p) (a := a) (b := b) (i := j - a) (by omega) hab
      rw [show p + (j - a) = j + (p - a) by omega, show a + (j - a) = j by omega] at this
      exact this) h
    rw [show a + (p - a) = p by omega, show b + (p - a) = p + (b - a) by omega] at z
    exact z
  · refine stsC_dn (sr' := clip tape b) (d := a - p) n p (p + (b - a)) (fun j h1 h2 => ?_) ?_
    · have := pooledP_cl (pool := pool) (tape := tape) (p := p) (a := a) (b := b) (i := j - p) (by omega) hab
      rw [show p + (j - p) = j by omega, show a + (j - p) = j + (a - p) by omega] at this
      exact this.symm
    · rw [show p + (a - p) = a by omega, show p + (b - a) + (a - p) = b by omega]; exact h
theorem pooledT {pool tape : Nat → Int} {p b : Nat} {f : Nat} (h : stsT (clip tape b) f 0 0 b) : stsT (pooledP pool tape p 0 b) f 0 p (p + b) := by
  have z := stsT_at (sr' := pooledP pool tape p 0 b) (d := p) f 0 0 b (fun j h1 h2 => by
    have := pooledP_cl (pool := pool) (tape := tape) (p := p) (a := 0) (b := b) (i := j) (by omega) (by omega)
    rw [Nat.zero_add] at this
    rw [Nat.add_comm]; exact this) h
  rw [Nat.zero_add, Nat.add_comm b p] at z
  exact z

/-! ===== what holds between steps, written into what they do ===== -/
def drI (pool : Nat → Int) (cl : (Nat → Int) → Nat → (Nat → Int) → Prop) : (Nat → Int) → Nat → Int → Int → (Nat → Int) → Prop := fun m p s2 f m' => doesR pool cl m p s2 f m' ∧ (∃ B, Inv m' pool B) ∧ Ev m m'
def clI (pool : Nat → Int) (sink : Int) (cl : (Nat → Int) → Nat → (Nat → Int) → Prop) (m : Nat → Int) (t : Nat) (m' : Nat → Int) : Prop := mOk m ∧ t ≤ 89 ∧ ((¬ m (258 + 14 * t) = 0 ∧ m' = m) ∨ (m (258 + 14 * t) = 0 ∧ ∃ (p E k : Nat) (f : Int) (m2 : Nat → Int), m (262 + 14 * t) = p ∧ m (263 + 14 * t) = E ∧ p ≤ 12342 ∧ E ≤ 12342 ∧ loopR pool (drI pool cl) t E k (updI m (258 + 14 * t) 1) p f m2 ∧ mOk m2 ∧ InR f ∧ m2 2 ≤ 89 ∧ m2 4 ≤ 119 ∧ m2 5 ≤ 119 ∧ m' = closedM (if f = 0 then m2 else gathersM m2 sink f t) t))
def diI (pool : Nat → Int) (cl : (Nat → Int) → Nat → (Nat → Int) → Prop) (sh : (Nat → Int) → Int → (Nat → Int) → Prop) (m : Nat → Int) (t p : Nat) (f : Int) (m' : Nat → Int) : Prop := doesInR pool cl sh m t p f m' ∧ (∃ B, Mid m' pool B) ∧ TkM m' pool t ∧ keepT m m' t
def turnLoopI (pool : Nat → Int) (cl : (Nat → Int) → Nat → (Nat → Int) → Prop) (sh : (Nat → Int) → Int → (Nat → Int) → Prop) (t E : Nat) : Nat → (Nat → Int) → Nat → (Nat → Int) → Prop
  | 0, m, p, m' => E ≤ p ∧ turnFinR sh t E m p m'
  | k + 1, m, p, m' => (E ≤ p ∧ turnFinR sh t E m p m') ∨ (p < E ∧ ∃ f m1, diI pool cl sh m t p f m1 ∧ InR f ∧ (∀ q, InR (m1 q)) ∧
      ((¬ f = 0 ∧ isOverR sh t 2 (updI m1 (1618 + 72 * t) f) m') ∨
       (f = 0 ∧ ((pool p = 46 ∧ turnFinR sh t E (updI m1 (1615 + 72 * t) (m1 (1615 + 72 * t) + 1)) (behL pool (E - p) p 0 + 1) m') ∨
                 (¬ pool p = 46 ∧ turnLoopI pool cl sh t E k (updI m1 (1615 + 72 * t) (m1 (1615 + 72 * t) + 1)) (behL pool (E - p) p 0 + 1) m')))))
def turnI (pool : Nat → Int) (cl : (Nat → Int) → Nat → (Nat → Int) → Prop) (sh : (Nat → Int) → Int → (Nat → Int) → Prop) (m : Nat → Int) (t : Nat) (m' : Nat → Int) : Prop :=
  t ≤ 9 ∧ mOk (turnM m t) ∧ (∃ n : Nat, n ≤ 60 ∧ m (1619 + 72 * t) = n) ∧
  ((fineV (turnM m t) t = false ∧ isOverR sh t 3 (turnM m t) m') ∨
   (fineV (turnM m t) t = true ∧ ∃ p E k : Nat, m (1617 + 72 * t) = E ∧ m (1611 + 72 * t) = p ∧ E ≤ 12342 ∧ p ≤ 12343 ∧ turnLoopI pool cl sh t E k (turnM m t) p m'))
section EXI
variable {pool : Nat → Int} {sink : Int} {cl cl' : (Nat → Int) → Nat → (Nat → Int) → Prop} {sh sh' : (Nat → Int) → Int → (Nat → Int) → Prop} {n : Nat}
theorem loop_exI (hPo : poolOk pool) (hC : CXG cl pool n) {t P E : Nat} (hPE : E ≤ P + 120) : ∀ (k : Nat) (m : Nat → Int) (B : Int) (p : Nat), P ≤ p → (E : Int) ≤ m 8 → Inv m pool B → B + 130 * n + 2 + (E - p : Nat) ≤ 2000000000 → 91 ≤ n + cnt (cngB m) (m 1).toNat → stsC pool k p E →
    ∃ f m', loopR pool (drI pool cl) t E k m p f m' ∧ Inv m' pool (B + (E - p : Nat)) ∧ Ev m m' ∧ InR f
  | 0, m, B, p, _, _, _, _, _, hT => absurd hT id
  | k + 1, m, B, p, hP, hE, h, hB, hn, hT => by
    obtain ⟨e, t1, t2, t3⟩ := hT
    have hlt := stepQ_lt t1
    have heE : e ≤ E := by rcases t3 with t3 | ⟨t3, _⟩ <;> omega
    have hbe := (stepQ_skip (fun a b => stsC_skip k a b) t1).beh (E := E) heE (by rcases t3 with t3 | ⟨_, t3, _⟩; exact Or.inl t3; exact Or.inr t3)
    obtain ⟨f, m1, a, b, c, d⟩ := stepQ_exg (s2 := m (259 + 14 * t)) hPo hC h (by omega) hn (h.1.1 _) t1 (endC_nd t2) (by omega) (by omega)
    by_cases z : f = 0
    · subst z
      rcases t3 with rfl | ⟨t3, t4, t5⟩
      · refine ⟨0, m1, Or.inr ⟨by omega, 0, m1, ⟨a, ⟨_, b⟩, c⟩, d, Or.inr ⟨rfl, ?_⟩⟩, b.up (by omega), c, by decide⟩
        rw [hbe]
        cases k with
        | zero => exact ⟨by omega, rfl, rfl⟩
        | succ k => exact Or.inl ⟨by omega, rfl, rfl⟩
      · obtain ⟨f2, m2, a2, b2, c2, d2⟩ := loop_exI hPo hC hPE k m1 (B + 1) (e + 1) (by omega) (by rw [c.1 8 (by unfold far; omega)]; exact hE) b (by omega) (by rw [c.cng h.1.2.2.1.1]; exact hn) t5
        refine ⟨f2, m2, Or.inr ⟨by omega, 0, m1, ⟨a, ⟨_, b⟩, c⟩, d, Or.inr ⟨rfl, ?_⟩⟩, b2.up (by omega), c.tr c2, d2⟩
        rw [hbe]
        exact a2
    · exact ⟨f, m1, Or.inr ⟨by omega, f, m1, ⟨a, ⟨_, b⟩, c⟩, d, Or.inl ⟨z, rfl, rfl⟩⟩, b.up (by omega), c, d⟩
theorem closes_exI (hPo : poolOk pool) (hs : InR sink) (hC : CXG cl pool n) : CXG (clI pool sink cl) pool (n + 1) := fun m t B h hB hn ht h0 => by
    have k1 := h.1.2.2.1
    obtain ⟨i1, i2⟩ := inv_cng h ht h0
    have q : ∀ q, ¬ q = 258 + 14 * t → updI m (258 + 14 * t) 1 q = m q := fun q a => updI_n a
    obtain ⟨z1, z2, z3, P, E, e1, e2, hx⟩ := h.2.2.1 t ht
    have x1 := hx.le h.2.1.2.2
    obtain ⟨x2, x3, x4⟩ := hx
    have hl : ∃ k f m2, loopR pool (drI pool cl) t E k (updI m (258 + 14 * t) 1) P f m2 ∧ Inv m2 pool (B + 120) ∧ Ev (updI m (258 + 14 * t) 1) m2 ∧ InR f := by
      rcases x4 with ⟨rfl, -⟩ | ⟨x5, k, x4⟩
      · exact ⟨0, 0, _, ⟨Nat.le_refl _, rfl, rfl⟩, i1.up (by omega), Ev.rf, by decide⟩
      · obtain ⟨f, m2, a, b, c, d⟩ := loop_exI hPo hC (t := t) (P := P) x3 k _ B P (Nat.le_refl _) (by rw [q 8 (by omega)]; omega) i1 (by omega) (by rw [q 1 (by omega), i2]; omega) x4
        exact ⟨k, f, m2, a, b.up (by omega), c, d⟩
    obtain ⟨k, f, m2, l1, l2, l3, l4⟩ := hl
    obtain ⟨v1, v2, v3, v4, v5, v6⟩ := l3
    rw [q 1 (by omega)] at v2
    rw [q 2 (by omega), q 6 (by omega)] at v3
    have ht2 : (t : Int) < m2 1 := by omega
    have hc2 : m2 (258 + 14 * t) = 1 := ((v4 t (by rw [q 1 (by omega)]; exact ht)).2.2.1).mpr updI_s
    obtain ⟨g1, g2, g3, g4⟩ := inv_close l2 ht2 hc2 hs l4
    obtain ⟨lt1, lt2, lt3, lt4⟩ := l2.lt ht2 (by rw [hc2]; decide)
    refine ⟨_, ⟨h.1, by omega, Or.inr ⟨h0, P, E, k, f, m2, e1, e2, by omega, by omega, l1, l2.1, l4, by omega, by omega, by omega, rfl⟩⟩, g1.up (by omega), ⟨?_, ?_, ?_, ?_, ?_, ?_⟩, by omega, g3⟩
    · intro c hc
      rw [g4 c (by unfold far at hc; omega) (by unfold far at hc; omega) (by unfold far at hc; omega) (by unfold far at hc; omega) (by unfold far at hc; omega) (by unfold far at hc; omega), v1 c hc, q c (by unfold far at hc; omega)]
    · rw [g4 1 (by omega) (by omega) (by omega) (by omega) (by omega) (by omega)]; exact v2
    · rw [g4 6 (by omega) (by omega) (by omega) (by omega) (by omega) (by omega)]; omega
    · intro u hu
      have w := v4 u (by rw [q 1 (by omega)]; exact hu)
      rw [q _ (by omega), q _ (by omega)] at w
      rw [g4 (262 + 14 * u) (by omega) (by omega) (by omega) (by omega) (by omega) (by omega), g4 (263 + 14 * u) (by omega) (by omega) (by omega) (by omega) (by omega) (by omega)]
      refine ⟨w.1, w.2.1, ?_⟩
      by_cases c : u = t
      · subst c
        rw [g3, h0]
        exact ⟨by decide, fun z => absurd z (by decide)⟩
      · rw [q (258 + 14 * u) (by omega)] at w
        rw [g4 (258 + 14 * u) (by omega) (by omega) (by omega) (by omega) (by omega) (by omega)]
        exact w.2.2
    · intro u a b
      rw [g4 1 (by omega) (by omega) (by omega) (by omega) (by omega) (by omega)] at b
      have k12 := l2.1.2.2.1
      rw [g4 (258 + 14 * u) (by omega) (by omega) (by omega) (by omega) (by omega) (by omega)]
      exact v5 u (by rw [q 1 (by omega)]; exact a) b
    · intro u hu
      rw [g4 _ (by omega) (by omega) (by omega) (by omega) (by omega) (by omega)]
      have := v6 u hu
      rw [q _ (by omega)] at this
      exact this
theorem turnLoop_exI (hPo : poolOk pool) (hCX : CXG cl pool 91) (hSX : SXG sh pool 61) {t P E : Nat} (hPE : E ≤ P + 120) : ∀ (k : Nat) (m : Nat → Int) (B : Int) (o p : Nat), (t : Int) < m 3 → (E : Int) < m 8 → Mid m pool B → TkM m pool t → B + (E - p : Nat) ≤ 1800000000 → m (1619 + 72 * t) = (o : Int) + 1 → m (1616 + 72 * t) = P → m (1617 + 72 * t) = E → P ≤ p → m (1615 + 72 * t) ≤ (p : Int) - P → stsT pool k o p E →
    ∃ m', turnLoopI pool cl sh t E k m p m' ∧ Aft m m' pool (B + (E - p : Nat))
  | 0, m, B, o, p, _, _, _, _, _, _, _, _, _, _, hT => absurd hT id
  | k + 1, m, B, o, p, ht, hE8, h, hT, hB, hn, hP, hE, hp, hd, hS => by
    obtain ⟨e, o', t1, t2, t3⟩ := hS
    obtain ⟨hM, k0, k1, k2, k3, k4, k5, k7⟩ := id h.1.1
    have hlt := stepK_lt t1
    have h8 := h.1.2.1.2.2
    have heE : e ≤ E := by rcases t3 with t3 | ⟨t3, _⟩ <;> omega
    have hbe := (stepK_skip t1).beh (E := E) heE (by rcases t3 with t3 | ⟨_, t3, _⟩; exact Or.inl t3; exact Or.inr t3)
    obtain ⟨f, m1, a, b, c, d, kt, ko⟩ := doesIn_exg hPo hCX hSX ht h hT (by omega) hn t1 (endC_nd t2) (by omega) (by omega)
    obtain ⟨kt3, kt7, kt8, ktq⟩ := id kt
    have ht1 : (t : Int) < m1 3 := by omega
    obtain ⟨hM1, j0, j1, j2, j3, j4, j5, j7⟩ := id b.1.1
    have d1 : m1 (1615 + 72 * t) = m (1615 + 72 * t) := ktq _ (by omega) (by omega) (by omega)
    have d5 := (hT.2 t ht).1.2.2.2.2.1
    by_cases z : f = 0
    · subst z
      have e2 : ∀ q, ¬ q = 1615 + 72 * t → updI m1 (1615 + 72 * t) (m1 (1615 + 72 * t) + 1) q = m1 q := fun q a => updI_n a
      have hm : Mid (updI m1 (1615 + 72 * t) (m1 (1615 + 72 * t) + 1)) pool (B + 1) := b.out ⟨by omega, by omega⟩ (by omega)
      have hT2 : TkM (updI m1 (1615 + 72 * t) (m1 (1615 + 72 * t) + 1)) pool t := c.step (e2 3 (by omega)) (e2 0 (by omega)) j0.2 j3.2 (by rw [e2 7 (by omega)]; exact Int.le_refl _) (by rw [e2 8 (by omega)]; exact Int.le_refl _) (fun c _ hc => e2 _ (by omega)) (fun u hu hu9 => ⟨fun q a b c => e2 q (by omega), Or.inl (e2 _ (by omega))⟩) (fun _ => by
        obtain ⟨a1, a2, a3, a4, a5, a6, ⟨n, a7, a8⟩, a9, a10⟩ := (c.2 t ht1).1
        unfold tkB
        rw [updI_s, e2 8 (by omega), e2 _ (by omega), e2 _ (by omega), e2 _ (by omega), e2 _ (by omega), e2 _ (by omega), e2 _ (by omega), e2 _ (by omega), e2 _ (by omega), e2 _ (by omega), e2 _ (by omega), e2 _ (by omega), e2 _ (by omega)]
        refine ⟨a1, a2, a3, a4, ⟨by omega, by omega⟩, a6, ⟨n, a7, a8.1, fun k hk => ?_, fun k hk => ?_⟩, a9, a10⟩
        · rw [e2 _ (by omega), e2 0 (by omega)]; exact a8.2.1 k hk
        · have z1 := a8.2.1 (k + 1) hk
          rw [e2 (1620 + 72 * t + (k + 1)) (by omega), e2 (1620 + 72 * t + k) (by omega), e2 _ (by omega)]; exact a8.2.2 k hk)
      have g9 : updI m1 (1615 + 72 * t) (m1 (1615 + 72 * t) + 1) (1619 + 72 * t) = (o' : Int) + 1 := (e2 _ (by omega)).trans (ko rfl)
      have g6 : updI m1 (1615 + 72 * t) (m1 (1615 + 72 * t) + 1) (1616 + 72 * t) = P := (e2 _ (by omega)).trans ((ktq _ (by omega) (by omega) (by omega)).trans hP)
      have g7 : updI m1 (1615 + 72 * t) (m1 (1615 + 72 * t) + 1) (1617 + 72 * t) = E := (e2 _ (by omega)).trans ((ktq _ (by omega) (by omega) (by omega)).trans hE)
      have aft : ∀ m' B', Aft (updI m1 (1615 + 72 * t) (m1 (1615 + 72 * t) + 1)) m' pool B' → B' ≤ B + (E - p : Nat) → Aft m m' pool (B + (E - p : Nat)) := fun m' B' x y => ⟨x.1.up y, x.2.1, x.2.2.1.trans ((e2 3 (by omega)).trans kt3), x.2.2.2.1.trans ((e2 7 (by omega)).trans kt7), ⟨x.2.2.2.2.1.trans ((e2 8 (by omega)).trans kt8.1), by have y := x.2.2.2.2.2; rw [e2 1 (by omega)] at y; omega⟩⟩
      have fin : p < E ∧ e + 1 ≤ 12343 ∧ (e + 1 < E → ∃ P' : Nat, updI m1 (1615 + 72 * t) (m1 (1615 + 72 * t) + 1) (1616 + 72 * t) = P' ∧ P' ≤ e + 1 ∧ updI m1 (1615 + 72 * t) (m1 (1615 + 72 * t) + 1) (1615 + 72 * t) ≤ ((e + 1 : Nat) : Int) - P' ∧ ∃ k, stsT pool k o' (e + 1) E) := by
        refine ⟨by omega, by omega, fun g => ⟨P, g6, by omega, by rw [updI_s]; omega, ?_⟩⟩
        rcases t3 with t3 | ⟨t3, t4, t5⟩
        · omega
        · exact ⟨k, t5⟩
      by_cases dot : pool p = 46
      · obtain ⟨m', x1, x2⟩ := turnFin_exg hPo hCX hSX (by rw [e2 3 (by omega)]; exact ht1) hm hT2 (by omega) g9 g7 fin.2.1 fin.2.2
        exact ⟨m', Or.inr ⟨by omega, 0, m1, ⟨a, ⟨_, b⟩, c, kt⟩, d, hM1, Or.inr ⟨rfl, Or.inl ⟨dot, by rw [hbe]; exact x1⟩⟩⟩, aft m' _ x2 (by omega)⟩
      · rcases t3 with rfl | ⟨t3, t4, t5⟩
        · obtain ⟨m', x1, x2⟩ := turnFin_exg hPo hCX hSX (by rw [e2 3 (by omega)]; exact ht1) hm hT2 (by omega) g9 g7 fin.2.1 fin.2.2
          refine ⟨m', Or.inr ⟨by omega, 0, m1, ⟨a, ⟨_, b⟩, c, kt⟩, d, hM1, Or.inr ⟨rfl, Or.inr ⟨dot, ?_⟩⟩⟩, aft m' _ x2 (by omega)⟩
          rw [hbe]
          cases k with
          | zero => exact ⟨by omega, x1⟩
          | succ k => exact Or.inl ⟨by omega, x1⟩
        · clear fin
          obtain ⟨m', x1, x2⟩ := turnLoop_exI hPo hCX hSX hPE k _ (B + 1) o' (e + 1) (by rw [e2 3 (by omega)]; exact ht1) (by rw [e2 8 (by omega)]; omega) hm hT2 (by omega) g9 g6 g7 (by omega) (by rw [updI_s]; omega) t5
          exact ⟨m', Or.inr ⟨by omega, 0, m1, ⟨a, ⟨_, b⟩, c, kt⟩, d, hM1, Or.inr ⟨rfl, Or.inr ⟨dot, by rw [hbe]; exact x1⟩⟩⟩, aft m' _ x2 (by omega)⟩
    · have e2 : ∀ q, ¬ q = 1618 + 72 * t → updI m1 (1618 + 72 * t) f q = m1 q := fun q a => updI_n a
      have hm : Mid (updI m1 (1618 + 72 * t) f) pool (B + 1) := b.out d (by omega)
      have hT2 : TkM (updI m1 (1618 + 72 * t) f) pool t := c.step (e2 3 (by omega)) (e2 0 (by omega)) j0.2 j3.2 (by rw [e2 7 (by omega)]; exact Int.le_refl _) (by rw [e2 8 (by omega)]; exact Int.le_refl _) (fun c _ hc => e2 _ (by omega)) (fun u hu hu9 => ⟨fun q a b c => e2 q (by omega), Or.inl (e2 _ (by omega))⟩) (fun _ => by
        obtain ⟨a1, a2, a3, a4, a5, a6, ⟨n, a7, a8⟩, a9, a10⟩ := (c.2 t ht1).1
        unfold tkB
        rw [e2 8 (by omega), e2 _ (by omega), e2 _ (by omega), e2 _ (by omega), e2 _ (by omega), e2 _ (by omega), e2 _ (by omega), e2 _ (by omega), e2 _ (by omega), e2 _ (by omega), e2 _ (by omega), e2 _ (by omega), e2 _ (by omega), e2 _ (by omega)]
        refine ⟨a1, a2, a3, a4, a5, a6, ⟨n, a7, a8.1, fun k hk => ?_, fun k hk => ?_⟩, a9, a10⟩
        · rw [e2 _ (by omega), e2 0 (by omega)]; exact a8.2.1 k hk
        · have z1 := a8.2.1 (k + 1) hk
          rw [e2 (1620 + 72 * t + (k + 1)) (by omega), e2 (1620 + 72 * t + k) (by omega), e2 _ (by omega)]; exact a8.2.2 k hk)
      obtain ⟨m', x1, x2, x3, x4⟩ := isOver_exg hPo hCX hSX (st := 2) (by rw [e2 3 (by omega)]; exact ht1) hm hT2 (by omega) (by decide)
      refine ⟨m', Or.inr ⟨by omega, f, m1, ⟨a, ⟨_, b⟩, c, kt⟩, d, hM1, Or.inl ⟨z, x1⟩⟩, x2.up (by omega), x3, ?_, ?_, ?_⟩
      · rw [x4.1 3 (Or.inr (Or.inl rfl)), updI_n (by omega), e2 3 (by omega)]; exact kt3
      · rw [x4.1 7 (Or.inr (Or.inr (Or.inl rfl))), updI_n (by omega), e2 7 (by omega)]; exact kt7
      · have y := x4.2.2.1.1
        rw [updI_n (by omega), e2 1 (by omega)] at y
        rw [x4.1 8 (Or.inr (Or.inr (Or.inr (Or.inl rfl)))), updI_n (by omega), e2 8 (by omega)]; exact ⟨kt8.1, by omega⟩
theorem turn_exI (hPo : poolOk pool) (hCX : CXG cl pool 91) (hSX : SXG sh pool 61) {m : Nat → Int} {B : Int} {t : Nat} (ht : (t : Int) < m 3) (h : Mid m pool B) (hT : TkM m pool 99) (hB : B ≤ 1700000000) (h7 : m 7 ≤ 1000000000) (hrd : m (1610 + 72 * t) = 0) :
    ∃ m', turnI pool cl sh m t m' ∧ Mid m' pool (B + 120) ∧ TkM m' pool 99 ∧ m' 3 = m 3 ∧ m' 7 = m 7 + 1 ∧ (m' 8 = m 8 ∧ m 1 ≤ m' 1) := by
  obtain ⟨hM, k0, k1, k2, k3, k4, k5, k7⟩ := id h.1.1
  obtain ⟨a1, a2, a3, a4, a5, a6, ⟨n, a7, a8⟩, ⟨p0, a9, a9b⟩, P0, E0, a10⟩ := id (hT.2 t ht).1
  have h8 := h.1.2.1.2.2
  obtain ⟨o, P, E, p, r1, r2, r3, r4, r5, r6, r7⟩ := (hT.2 t ht).2 (by omega) hrd
  have t7 := hT.1
  have e : ∀ q, ¬ q = 7 → ¬ q = 1612 + 72 * t → ¬ q = 1613 + 72 * t → turnM m t q = m q := fun q a b c => by unfold turnM; rw [updI_n c, updI_n b, updI_n a]
  have e7 : turnM m t 7 = m 7 + 1 := by unfold turnM; rw [updI_n (by omega), updI_n (by omega), updI_s]
  have e2 : turnM m t (1612 + 72 * t) = m (1612 + 72 * t) + 1 := by unfold turnM; rw [updI_n (by omega), updI_s]
  have e3 : turnM m t (1613 + 72 * t) = m 7 + 1 := by unfold turnM; rw [updI_s]
  have hm : Mid (turnM m t) pool B := ((h.out (k := 7) (v := m 7 + 1) ⟨by omega, by omega⟩ (Or.inl rfl)).out (k := 1612 + 72 * t) (v := m (1612 + 72 * t) + 1) ⟨by omega, by omega⟩ (by omega)).out (k := 1613 + 72 * t) (v := m 7 + 1) ⟨by omega, by omega⟩ (by omega)
  have hT2 : TkM (turnM m t) pool t := (hT.weak k3.2 : TkM m pool t).step (e 3 (by omega) (by omega) (by omega)) (e 0 (by omega) (by omega) (by omega)) k0.2 k3.2 (by omega) (by rw [e 8 (by omega) (by omega) (by omega)]; exact Int.le_refl _) (fun c _ hc => e _ (by omega) (by omega) (by omega)) (fun u hu hu9 => ⟨fun q a b c => e q (by omega) (by omega) (by omega), Or.inl (e _ (by omega) (by omega) (by omega))⟩) (fun _ => by
    unfold tkB
    rw [e7, e2, e3, e 8 (by omega) (by omega) (by omega), e _ (by omega) (by omega) (by omega), e _ (by omega) (by omega) (by omega), e _ (by omega) (by omega) (by omega), e _ (by omega) (by omega) (by omega), e _ (by omega) (by omega) (by omega), e _ (by omega) (by omega) (by omega), e _ (by omega) (by omega) (by omega), e _ (by omega) (by omega) (by omega), e _ (by omega) (by omega) (by omega), e _ (by omega) (by omega) (by omega)]
    refine ⟨a1, a2, a3, ⟨⟨by omega, by omega⟩, ⟨by omega, Int.le_refl _⟩⟩, a5, a6, ⟨n, a7, a8.1, fun k hk => ?_, fun k hk => ?_⟩, ⟨p0, a9, a9b⟩, P0, E0, a10⟩
    · rw [e _ (by omega) (by omega) (by omega), e 0 (by omega) (by omega) (by omega)]; exact a8.2.1 k hk
    · have z1 := a8.2.1 (k + 1) hk
      rw [e (1620 + 72 * t + (k + 1)) (by omega) (by omega) (by omega), e (1620 + 72 * t + k) (by omega) (by omega) (by omega), e _ (by omega) (by omega) (by omega)]; exact a8.2.2 k hk)
  have hx := r7
  obtain ⟨kk, hx⟩ := hx
  have hlx := stsT_lt hx
  by_cases c : fineV (turnM m t) t = true
  · obtain ⟨m', x1, x2⟩ := turnLoop_exI hPo hCX hSX (t := t) (P := P) (E := E) (by omega) kk (turnM m t) B o p (by rw [e 3 (by omega) (by omega) (by omega)]; exact ht) (by rw [e 8 (by omega) (by omega) (by omega)]; omega) hm hT2 (by omega) (by rw [e _ (by omega) (by omega) (by omega)]; exact r1) (by rw [e _ (by omega) (by omega) (by omega)]; exact r2) (by rw [e _ (by omega) (by omega) (by omega)]; exact r3) r5 (by rw [e _ (by omega) (by omega) (by omega)]; exact r6) hx
    refine ⟨m', ⟨by omega, hm.1.1, ⟨n, a8.1.2, a7⟩, Or.inr ⟨c, p, E, kk, r3, r4, by omega, by omega, x1⟩⟩, x2.1.up (by omega), x2.2.1, ?_, ?_, ?_⟩
    · rw [x2.2.2.1, e 3 (by omega) (by omega) (by omega)]
    · rw [x2.2.2.2.1, e7]
    · have y := x2.2.2.2.2
      rw [e 8 (by omega) (by omega) (by omega), e 1 (by omega) (by omega) (by omega)] at y; exact y
  · obtain ⟨m', x1, x2, x3, x4⟩ := isOver_exg hPo hCX hSX (st := 3) (by rw [e 3 (by omega) (by omega) (by omega)]; exact ht) hm hT2 (by omega) (by decide)
    refine ⟨m', ⟨by omega, hm.1.1, ⟨n, a8.1.2, a7⟩, Or.inl ⟨by simpa using c, x1⟩⟩, x2.up (by omega), x3, ?_, ?_, ?_⟩
    · rw [x4.1 3 (Or.inr (Or.inl rfl)), updI_n (by omega), e 3 (by omega) (by omega) (by omega)]
    · rw [x4.1 7 (Or.inr (Or.inr (Or.inl rfl))), updI_n (by omega), e7]
    · have y := x4.2.2.1.1
      rw [updI_n (by omega), e 1 (by omega) (by omega) (by omega)] at y
      rw [x4.1 8 (Or.inr (Or.inr (Or.inr (Or.inl rfl)))), updI_n (by omega), e 8 (by omega) (by omega) (by omega)]; exact ⟨rfl, y⟩
/-! more is done by less -/
theorem stpR_mo (h : ∀ m t m', cl m t m' → cl' m t m') {m m' : Nat → Int} {p : Nat} {s2 f : Int} (k : stpR pool cl m p s2 f m') : stpR pool cl' m p s2 f m' := by
  obtain ⟨a, b, c, k⟩ := k
  refine ⟨a, b, c, ?_⟩
  rcases k with k | k | k | ⟨k1, k2 | ⟨k2, k3, k4⟩⟩ | k | k | k
  · exact Or.inl k
  · exact Or.inr (Or.inl k)
  · exact Or.inr (Or.inr (Or.inl k))
  · exact Or.inr (Or.inr (Or.inr (Or.inl ⟨k1, Or.inl k2⟩)))
  · exact Or.inr (Or.inr (Or.inr (Or.inl ⟨k1, Or.inr ⟨k2, k3, h _ _ _ k4⟩⟩)))
  · exact Or.inr (Or.inr (Or.inr (Or.inr (Or.inl k))))
  · exact Or.inr (Or.inr (Or.inr (Or.inr (Or.inr (Or.inl k)))))
  · exact Or.inr (Or.inr (Or.inr (Or.inr (Or.inr (Or.inr k)))))
theorem doesR_mo (h : ∀ m t m', cl m t m' → cl' m t m') {m m' : Nat → Int} {p : Nat} {s2 f : Int} (k : doesR pool cl m p s2 f m') : doesR pool cl' m p s2 f m' := by
  rcases k with k | ⟨k1, k2, k3, k4, k5, n, j, k6, k7, k8, k9, k10, k11⟩
  · exact Or.inl (stpR_mo h k)
  · refine Or.inr ⟨k1, k2, k3, k4, k5, n, j, k6, k7, k8, k9, k10, ?_⟩
    rcases k11 with ⟨a, b⟩ | k11
    · exact Or.inl ⟨a, stpR_mo h b⟩
    · exact Or.inr k11
theorem loopR_mo {dr dr' : (Nat → Int) → Nat → Int → Int → (Nat → Int) → Prop} (h : ∀ m p s2 f m', dr m p s2 f m' → dr' m p s2 f m') {t E : Nat} : ∀ (k : Nat) (m : Nat → Int) (p : Nat) (f : Int) (m' : Nat → Int), loopR pool dr t E k m p f m' → loopR pool dr' t E k m p f m'
  | 0, m, p, f, m', k => k
  | n + 1, m, p, f, m', k => by
    rcases k with k | ⟨k1, f1, m1, k2, k3, k4⟩
    · exact Or.inl k
    · refine Or.inr ⟨k1, f1, m1, h _ _ _ _ _ k2, k3, ?_⟩
      rcases k4 with k4 | ⟨k4, k5⟩
      · exact Or.inl k4
      · exact Or.inr ⟨k4, loopR_mo h n _ _ _ _ k5⟩
theorem clI_mo (h : ∀ m t m', cl m t m' → closesR pool sink n m t m') {m m' : Nat → Int} {t : Nat} (k : clI pool sink cl m t m') : closesR pool sink (n + 1) m t m' := by
  obtain ⟨a, b, c | ⟨c, p, E, j, f, m2, d1, d2, d3, d4, d5, d6⟩⟩ := k
  · exact ⟨a, b, Or.inl c⟩
  · exact ⟨a, b, Or.inr ⟨c, p, E, j, f, m2, d1, d2, d3, d4, loopR_mo (fun m p s2 f m' x => doesR_mo h x.1) j _ _ _ _ d5, d6⟩⟩
theorem shLoopR_mo (hc : ∀ m t m', cl m t m' → cl' m t m') (hs : ∀ m s m', sh m s m' → sh' m s m') {s : Int} : ∀ (k : Nat) (m m' : Nat → Int), shLoopR cl sh s k m m' → shLoopR cl' sh' s k m m'
  | 0, m, m', k => k
  | n + 1, m, m', k => by
    obtain ⟨a, b, c | ⟨c, m1, d, e⟩ | ⟨c, m1, d, e⟩⟩ := k
    · exact ⟨a, b, Or.inl c⟩
    · exact ⟨a, b, Or.inr (Or.inl ⟨c, m1, hc _ _ _ d, shLoopR_mo hc hs n _ _ e⟩)⟩
    · exact ⟨a, b, Or.inr (Or.inr ⟨c, m1, hs _ _ _ d, shLoopR_mo hc hs n _ _ e⟩)⟩
theorem shB_mo (hc : ∀ m t m', cl m t m' → closesR pool sink 91 m t m') (hs : ∀ m s m', sh m s m' → shutsR pool sink n m s m') {m m' : Nat → Int} {s : Int} (k : shB cl sh m s m') : shutsR pool sink (n + 1) m s m' := by
  obtain ⟨a, b, c | ⟨c, j, m2, d, e⟩⟩ := k
  · exact ⟨a, b, Or.inl c⟩
  · exact ⟨a, b, Or.inr ⟨c, j, m2, shLoopR_mo hc hs j _ _ d, e⟩⟩
theorem overR_mo (hs : ∀ m s m', sh m s m' → sh' m s m') {t : Nat} : ∀ (k : Nat) (m m' : Nat → Int), overR sh t k m m' → overR sh' t k m m'
  | 0, m, m', k => k
  | n + 1, m, m', k => by
    obtain ⟨a, m1, b, c⟩ := k
    exact ⟨a, m1, hs _ _ _ b, overR_mo hs n _ _ c⟩
theorem isOverR_mo (hs : ∀ m s m', sh m s m' → sh' m s m') {t : Nat} {st : Int} {m m' : Nat → Int} (k : isOverR sh t st m m') : isOverR sh' t st m m' := by
  obtain ⟨a, j, b, c, d⟩ := k
  exact ⟨a, j, b, c, overR_mo hs j _ _ d⟩
theorem turnFinR_mo (hs : ∀ m s m', sh m s m' → sh' m s m') {t E p : Nat} {m m' : Nat → Int} (k : turnFinR sh t E m p m') : turnFinR sh' t E m p m' := by
  obtain ⟨a, b, c | ⟨c, d⟩⟩ := k
  · exact ⟨a, b, Or.inl c⟩
  · exact ⟨a, b, Or.inr ⟨c, isOverR_mo hs d⟩⟩
theorem doesInR_mo (hc : ∀ m t m', cl m t m' → cl' m t m') (hs : ∀ m s m', sh m s m' → sh' m s m') {t p : Nat} {f : Int} {m m' : Nat → Int} (k : doesInR pool cl sh m t p f m') : doesInR pool cl' sh' m t p f m' := by
  obtain ⟨a, b, c, j, d, e, k | ⟨k1, k2, k3⟩ | ⟨k1, k2, k3⟩⟩ := k
  · exact ⟨a, b, c, j, d, e, Or.inl k⟩
  · exact ⟨a, b, c, j, d, e, Or.inr (Or.inl ⟨k1, k2, hs _ _ _ k3⟩)⟩
  · exact ⟨a, b, c, j, d, e, Or.inr (Or.inr ⟨k1, k2, doesR_mo hc k3⟩)⟩
theorem turnLoopI_mo (hc : ∀ m t m', cl m t m' → cl' m t m') (hs : ∀ m s m', sh m s m' → sh' m s m') {t E : Nat} : ∀ (k : Nat) (m : Nat → Int) (p : Nat) (m' : Nat → Int), turnLoopI pool cl sh t E k m p m' → turnLoopR pool cl' sh' t E k m p m'
  | 0, m, p, m', k => ⟨k.1, turnFinR_mo hs k.2⟩
  | n + 1, m, p, m', k => by
    rcases k with ⟨a, b⟩ | ⟨a, f, m1, b, c, d, e⟩
    · exact Or.inl ⟨a, turnFinR_mo hs b⟩
    · refine Or.inr ⟨a, f, m1, doesInR_mo hc hs b.1, c, d, ?_⟩
      rcases e with ⟨e1, e2⟩ | ⟨e1, ⟨e2, e3⟩ | ⟨e2, e3⟩⟩
      · exact Or.inl ⟨e1, isOverR_mo hs e2⟩
      · exact Or.inr ⟨e1, Or.inl ⟨e2, turnFinR_mo hs e3⟩⟩
      · exact Or.inr ⟨e1, Or.inr ⟨e2, turnLoopI_mo hc hs n _ _ _ e3⟩⟩
theorem turnI_mo (hc : ∀ m t m', cl m t m' → cl' m t m') (hs : ∀ m s m', sh m s m' → sh' m s m') {t : Nat} {m m' : Nat → Int} (k : turnI pool cl sh m t m') : turnR pool cl' sh' m t m' := by
  obtain ⟨a, b, c, ⟨d, e⟩ | ⟨d, p, E, j, e1, e2, e3, e4, e5⟩⟩ := k
  · exact ⟨a, b, c, Or.inl ⟨d, isOverR_mo hs e⟩⟩
  · exact ⟨a, b, c, Or.inr ⟨d, p, E, j, e1, e2, e3, e4, turnLoopI_mo hc hs j _ _ _ e5⟩⟩
end EXI

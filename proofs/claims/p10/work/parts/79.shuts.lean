/-! ===== every shutting comes to its end ===== -/
theorem loT_p {m : Nat → Int} {s : Int} : ∀ (n t : Nat) (r : Int × Int), (r.1 = -5 ∨ ∃ u : Nat, r.1 = u ∧ u < t ∧ m (258 + 14 * u) = 0 ∧ m (259 + 14 * u) = s) → ((loT m s n t r).1 = -5 ∨ ∃ u : Nat, (loT m s n t r).1 = u ∧ u < t + n ∧ m (258 + 14 * u) = 0 ∧ m (259 + 14 * u) = s)
  | 0, t, r, h => h
  | n + 1, t, r, h => by
    unfold loT
    rw [show t + (n + 1) = t + 1 + n by omega]
    refine loT_p n (t + 1) _ ?_
    split
    · rename_i c
      exact Or.inr ⟨t, rfl, by omega, by have := c.1; simpa [heldB] using this, c.2.1⟩
    · rcases h with h | ⟨u, a, b, c⟩
      · exact Or.inl h
      · exact Or.inr ⟨u, a, by omega, c⟩
theorem loS_p {m : Nat → Int} {s : Int} {N : Nat} : ∀ (n c : Nat) (r : Int × Int), 1 ≤ c → (r.1 = -5 ∨ (∃ u : Nat, r.1 = u ∧ u < N ∧ m (258 + 14 * u) = 0 ∧ m (259 + 14 * u) = s) ∨ ∃ u : Nat, r.1 = 100 + (u : Int) ∧ 1 ≤ u ∧ u < c ∧ m (18 + 4 * u) = 0 ∧ m (19 + 4 * u) = s) →
    ((loS m s n c r).1 = -5 ∨ (∃ u : Nat, (loS m s n c r).1 = u ∧ u < N ∧ m (258 + 14 * u) = 0 ∧ m (259 + 14 * u) = s) ∨ ∃ u : Nat, (loS m s n c r).1 = 100 + (u : Int) ∧ 1 ≤ u ∧ u < c + n ∧ m (18 + 4 * u) = 0 ∧ m (19 + 4 * u) = s)
  | 0, c, r, h1, h => h
  | n + 1, c, r, h1, h => by
    unfold loS
    rw [show c + (n + 1) = c + 1 + n by omega]
    refine loS_p n (c + 1) _ (by omega) ?_
    split
    · rename_i g
      exact Or.inr (Or.inr ⟨c, rfl, h1, by omega, by have := g.1; simpa [openB] using this, g.2.1⟩)
    · rcases h with h | h | ⟨u, a, b, d, e⟩
      · exact Or.inl h
      · exact Or.inr (Or.inl h)
      · exact Or.inr (Or.inr ⟨u, a, b, by omega, e⟩)
theorem lastM_p (m : Nat → Int) (s : Int) (N C : Nat) (hC : 1 ≤ C) : lastM m s N C = -5 ∨ (∃ u : Nat, lastM m s N C = u ∧ u < N ∧ m (258 + 14 * u) = 0 ∧ m (259 + 14 * u) = s) ∨ ∃ u : Nat, lastM m s N C = 100 + (u : Int) ∧ 1 ≤ u ∧ u < C ∧ m (18 + 4 * u) = 0 ∧ m (19 + 4 * u) = s := by
  have h := loS_p (m := m) (s := s) (N := N) (C - 1) 1 (loT m s N 0 (-5, -1)) (Nat.le_refl _) (by
    rcases loT_p (m := m) (s := s) N 0 (-5, -1) (Or.inl rfl) with h | ⟨u, a, b, c⟩
    · exact Or.inl h
    · exact Or.inr (Or.inl ⟨u, a, by omega, c⟩))
  rw [show 1 + (C - 1) = C by omega] at h
  exact h
theorem loT_up {m : Nat → Int} {s : Int} : ∀ (n t : Nat) (r : Int × Int), 0 ≤ r.1 → 0 ≤ (loT m s n t r).1
  | 0, _, _, h => h
  | n + 1, t, r, h => by
    unfold loT
    refine loT_up n (t + 1) _ ?_
    split
    · show (0 : Int) ≤ t; omega
    · exact h
theorem loS_up {m : Nat → Int} {s : Int} : ∀ (n c : Nat) (r : Int × Int), 0 ≤ r.1 → 0 ≤ (loS m s n c r).1
  | 0, _, _, h => h
  | n + 1, c, r, h => by
    unfold loS
    refine loS_up n (c + 1) _ ?_
    split
    · show (0 : Int) ≤ 100 + c; omega
    · exact h
theorem loT_no {m : Nat → Int} {s : Int} : ∀ (n t : Nat), (loT m s n t (-5, -1)).1 < 0 → loT m s n t (-5, -1) = (-5, -1) ∧ ∀ u, t ≤ u → u < t + n → ¬ (m (258 + 14 * u) = 0 ∧ m (259 + 14 * u) = s ∧ -1 ≤ m (260 + 14 * u))
  | 0, t, _ => ⟨rfl, fun u a b => by omega⟩
  | n + 1, t, h => by
    unfold loT at h ⊢
    split at h
    · rename_i c
      have := loT_up (m := m) (s := s) n (t + 1) ((t : Int), m (260 + 14 * t)) (by show (0 : Int) ≤ t; omega)
      omega
    · rename_i c
      rw [if_neg c]
      obtain ⟨a, b⟩ := loT_no n (t + 1) h
      refine ⟨a, fun u x y => ?_⟩
      by_cases e : u = t
      · subst e
        exact fun z => c ⟨by simp [heldB, z.1], z.2.1, z.2.2⟩
      · exact b u (by omega) (by omega)
theorem loS_no {m : Nat → Int} {s : Int} : ∀ (n c : Nat), (loS m s n c (-5, -1)).1 < 0 → ∀ u, c ≤ u → u < c + n → ¬ (m (18 + 4 * u) = 0 ∧ m (19 + 4 * u) = s ∧ -1 ≤ m (20 + 4 * u))
  | 0, c, _ => fun u a b => by omega
  | n + 1, c, h => by
    unfold loS at h
    split at h
    · rename_i g
      have := loS_up (m := m) (s := s) n (c + 1) (100 + (c : Int), m (20 + 4 * c)) (by show (0 : Int) ≤ 100 + c; omega)
      omega
    · rename_i g
      have b := loS_no n (c + 1) h
      intro u x y
      by_cases e : u = c
      · subst e
        exact fun z => g ⟨by simp [openB, z.1], z.2.1, z.2.2⟩
      · exact b u (by omega) (by omega)
theorem lastM_no {m : Nat → Int} {s : Int} {N C : Nat} (hC : 1 ≤ C) (h : lastM m s N C < 0) : (∀ u, u < N → ¬ (m (258 + 14 * u) = 0 ∧ m (259 + 14 * u) = s ∧ -1 ≤ m (260 + 14 * u))) ∧ ∀ u, 1 ≤ u → u < C → ¬ (m (18 + 4 * u) = 0 ∧ m (19 + 4 * u) = s ∧ -1 ≤ m (20 + 4 * u)) := by
  unfold lastM at h
  by_cases c : (loT m s N 0 (-5, -1)).1 < 0
  · obtain ⟨a, b⟩ := loT_no N 0 c
    rw [a] at h
    have d := loS_no (C - 1) 1 h
    exact ⟨fun u hu => b u (by omega) (by omega), fun u h1 h2 => d u h1 (by omega)⟩
  · have := loS_up (m := m) (s := s) (C - 1) 1 _ (show 0 ≤ (loT m s N 0 (-5, -1)).1 by omega)
    omega
/-! scopes -/
def NC (m : Nat → Int) : Prop := ∀ t : Nat, (t : Int) < m 1 → ¬ m (258 + 14 * t) = 1
theorem NC.cnt {m : Nat → Int} (h : NC m) (h1 : 0 ≤ m 1) : cnt (cngB m) (m 1).toNat = 0 := by
  have := cnt_none (p := cngB m) (N := 0) (m 1).toNat (fun j a b => decide_eq_false (h j (by omega)))
  rw [Nat.zero_add] at this
  exact this
def ScI (m : Nat → Int) : Prop := m 19 = -5 ∧ ¬ m 18 = 2 ∧ ∀ c : Nat, (c : Int) < m 0 → (0 ≤ m (18 + 4 * c) ∧ m (18 + 4 * c) ≤ 2) ∧ (1 ≤ c → (0 ≤ m (19 + 4 * c) ∧ m (19 + 4 * c) < c) ∧ (0 ≤ m (20 + 4 * c) ∧ m (20 + 4 * c) ≤ m 6) ∧ (¬ m (18 + 4 * c) = 2 → ¬ m (18 + 4 * (m (19 + 4 * c)).toNat) = 2))
def fat (q : Nat) : Prop := q = 0 ∨ q = 3 ∨ q = 7 ∨ q = 8 ∨ (18 ≤ q ∧ q < 258 ∧ ∀ c : Nat, q ≠ 18 + 4 * c) ∨ (1608 ≤ q ∧ q < 2328 ∧ ∀ t : Nat, q ≠ 1614 + 72 * t)
theorem fat_far {q : Nat} (h : fat q) : far q := by
  rcases h with h | h | h | h | h | h
  · exact Or.inl h
  · exact Or.inr (Or.inl h)
  · exact Or.inr (Or.inr (Or.inl h))
  · exact Or.inr (Or.inr (Or.inr (Or.inl h)))
  · exact Or.inr (Or.inr (Or.inr (Or.inr (Or.inl ⟨h.1, h.2.1⟩))))
  · exact Or.inr (Or.inr (Or.inr (Or.inr (Or.inr h))))
/-- what may have happened while scopes were shut -/
def Es (m m' : Nat → Int) : Prop :=
  (∀ q, fat q → m' q = m q) ∧ (∀ c : Nat, c < 60 → m' (18 + 4 * c) = m (18 + 4 * c) ∨ (m (18 + 4 * c) = 0 ∧ m' (18 + 4 * c) = 2 ∧ 1 ≤ c)) ∧ (m 1 ≤ m' 1 ∧ m 2 ≤ m' 2 ∧ m 6 ≤ m' 6) ∧ (NC m → NC m') ∧ (∀ t : Nat, t ≤ 9 → m' (1614 + 72 * t) = m (1614 + 72 * t) ∨ m' (1614 + 72 * t) = 1)
theorem Es.rf {m : Nat → Int} : Es m m := ⟨fun _ _ => rfl, fun _ _ => Or.inl rfl, ⟨Int.le_refl _, Int.le_refl _, Int.le_refl _⟩, id, fun _ _ => Or.inl rfl⟩
theorem Es.tr {a b c : Nat → Int} (h : Es a b) (k : Es b c) : Es a c := by
  obtain ⟨h1, h2, h3, h4, h5⟩ := h
  obtain ⟨k1, k2, k3, k4, k5⟩ := k
  refine ⟨fun q hq => (k1 q hq).trans (h1 q hq), fun u hu => ?_, by omega, fun z => k4 (h4 z), fun t ht => ?_⟩
  · rcases k2 u hu with w | w
    · rw [w]; exact h2 u hu
    · rcases h2 u hu with z | z
      · exact Or.inr ⟨by rw [← z]; exact w.1, w.2⟩
      · exact Or.inr ⟨z.1, w.2⟩
  · rcases k5 t ht with w | w
    · rw [w]; exact h5 t ht
    · exact Or.inr w
theorem Ev.es {m m' : Nat → Int} (h : Ev m m') : Es m m' := by
  obtain ⟨h1, h2, h3, h4, h5, h6⟩ := h
  refine ⟨fun q hq => h1 q (fat_far hq), fun c hc => Or.inl (h1 _ (by unfold far; omega)), by omega, fun z t ht => ?_, h6⟩
  by_cases g : (t : Int) < m 1
  · exact fun w => z t g ((h4 t g).2.2.1.mp w)
  · exact h5 t (by omega) ht
theorem Ev.sc {m m' : Nat → Int} (h : Ev m m') (k : ScI m) (h0 : m 0 ≤ 60) : ScI m' := by
  obtain ⟨k1, k2, k3⟩ := k
  have e : ∀ q, 18 ≤ q → q < 258 → m' q = m q := fun q a b => h.1 q (by unfold far; omega)
  have e0 : m' 0 = m 0 := h.1 0 (by unfold far; omega)
  have e6 := h.2.2.1.2
  refine ⟨by rw [e 19 (by omega) (by omega)]; exact k1, by rw [e 18 (by omega) (by omega)]; exact k2, fun c hc => ?_⟩
  rw [e0] at hc
  obtain ⟨a, b⟩ := k3 c hc
  rw [e (18 + 4 * c) (by omega) (by omega), e (19 + 4 * c) (by omega) (by omega), e (20 + 4 * c) (by omega) (by omega)]
  refine ⟨a, fun h1 => ?_⟩
  obtain ⟨b1, b2, b3⟩ := b h1
  rw [e (18 + 4 * (m (19 + 4 * c)).toNat) (by omega) (by omega)]
  exact ⟨b1, ⟨b2.1, by omega⟩, b3⟩
theorem openP_nat {m : Nat → Int} {s : Nat} : openP m (s : Int) ↔ ((s : Int) < m 0 ∧ m (18 + 4 * s) = 0) := by
  unfold openP
  rw [show (18 + 4 * (s : Int)).toNat = 18 + 4 * s by omega]
  constructor
  · intro h; exact ⟨by omega, h.2.2⟩
  · intro h; exact ⟨by omega, by omega, h.2⟩
/-- a scope's state changes -/
theorem Inv.scope {m pool : Nat → Int} {B : Int} (h : Inv m pool B) {s : Nat} (hs : s < 60) {v : Int} (hv : InR v) : Inv (updI m (18 + 4 * s) v) pool B := h.out hv (by omega) (by omega)
def SX (pool : Nat → Int) (sink : Int) (n : Nat) : Prop := ∀ (m : Nat → Int) (s : Nat) (B : Int), Inv m pool B → ScI m → NC m → B ≤ 1900000000 → 61 ≤ n + s → (s : Int) < m 0 → (∀ c : Nat, s < c → (c : Int) < m 0 → ¬ m (18 + 4 * c) = 1) →
  ∃ m', shutsR pool sink n m s m' ∧ Inv m' pool B ∧ ScI m' ∧ Es m m' ∧ (m (18 + 4 * s) = 0 → m' (18 + 4 * s) = if s = 0 then 0 else 2)
theorem sh_loop {pool : Nat → Int} (hPo : poolOk pool) {sink : Int} (hk : InR sink) {n s : Nat} (hS : SX pool sink n) (hn : 60 ≤ n + s) : ∀ (K : Nat) (m : Nat → Int) (B : Int), Inv m pool B → ScI m → NC m → B ≤ 1900000000 → (s : Int) < m 0 → m (18 + 4 * s) = 1 → (∀ c : Nat, s < c → (c : Int) < m 0 → ¬ m (18 + 4 * c) = 1) → (90 - m 2) + cnt (openB m) (m 0).toNat ≤ K →
    ∃ k m', shLoopR (closesR pool sink 91) (shutsR pool sink n) s k m m' ∧ Inv m' pool B ∧ ScI m' ∧ Es m m' ∧ lastI m' s < 0
  | K, m, B, h, hsc, hnc, hB, hs0, hs1, hc1, hK => by
    have hok := h.1
    obtain ⟨hM, k0, k1, k2, k3, k4, k5, k7⟩ := id hok
    have h01 := h.2.1.1
    have hr := lastM_p m s (m 1).toNat (m 0).toNat (by omega)
    have hdef : lastI m s = lastM m s (m 1).toNat (m 0).toNat := rfl
    rw [← hdef] at hr
    have rc := cnt_r (openB m) (m 0).toNat
    rcases hr with hr | ⟨u, hr, hu1, hu2, hu3⟩ | ⟨u, hr, hu0, hu1, hu2, hu3⟩
    · exact ⟨0, m, ⟨hok, h01, by omega, rfl⟩, h, hsc, Es.rf, by omega⟩
    · obtain ⟨m1, a, b, c, d, -⟩ := closes_ex hPo hk 91 m u B h (by omega) (by rw [hnc.cnt k1.1]; omega) (by omega) hu2
      have b2 := b.1.2.2.2.1
      have e0 : m1 0 = m 0 := c.1 0 (by unfold far; omega)
      have ec : cnt (openB m1) (m 0).toNat = cnt (openB m) (m 0).toNat := cnt_congr _ (fun q hq => by unfold openB; rw [c.1 _ (by unfold far; omega)])
      cases K with
      | zero => omega
      | succ K =>
        obtain ⟨k, m', a2, b2, c2, d2, e2⟩ := sh_loop hPo hk hS hn K m1 B b (c.sc hsc k0.2) (c.es.2.2.2.1 hnc) hB (by omega) (by rw [c.1 _ (by unfold far; omega)]; exact hs1) (fun q x y => by rw [c.1 _ (by unfold far; omega)]; exact hc1 q x (by omega)) (by rw [e0, ec]; omega)
        exact ⟨k + 1, m', ⟨hok, h01, Or.inr (Or.inl ⟨by omega, m1, by rw [hr, Int.toNat_natCast]; exact a, a2⟩)⟩, b2, c2, c.es.tr d2, e2⟩
    · obtain ⟨p1, p2⟩ := hsc.2.2 u (by omega)
      obtain ⟨p3, -, -⟩ := p2 hu0
      obtain ⟨m1, a, b, c, d, e⟩ := hS m u B h hsc hnc hB (by omega) (by omega) (fun q x y => hc1 q (by omega) y)
      have e0 : m1 0 = m 0 := d.1 0 (by unfold fat; omega)
      have eu := e hu2
      rw [if_neg (by omega)] at eu
      have ec : cnt (openB m1) (m 0).toNat < cnt (openB m) (m 0).toNat := by
        have le : ∀ N : Nat, N ≤ 60 → cnt (openB m1) N ≤ cnt (openB m) N ∧ (u < N → cnt (openB m1) N < cnt (openB m) N) := by
          intro N
          induction N with
          | zero => intro _; exact ⟨Int.le_refl _, fun z => by omega⟩
          | succ N ih =>
            intro hN
            obtain ⟨i1, i2⟩ := ih (by omega)
            rw [cnt_S, cnt_S]
            by_cases g : N = u
            · subst g
              rw [show openB m1 N = false from decide_eq_false (by rw [eu]; decide), show openB m N = true from decide_eq_true hu2]
              simp only [if_true, Bool.false_eq_true, if_false]
              omega
            · have q : (if openB m1 N = true then (1 : Int) else 0) ≤ (if openB m N = true then 1 else 0) := by
                rcases d.2.1 N (by omega) with w | w
                · rw [show openB m1 N = openB m N by unfold openB; rw [w]]; exact Int.le_refl _
                · rw [show openB m1 N = false from decide_eq_false (by rw [w.2.1]; decide)]
                  simp only [Bool.false_eq_true, if_false]
                  split <;> decide
              refine ⟨by omega, fun z => ?_⟩
              have := i2 (by omega)
              omega
        exact (le (m 0).toNat (by omega)).2 (by omega)
      have d3 := d.2.2.1
      have st1 : m1 (18 + 4 * s) = 1 := by
        rcases d.2.1 s (by omega) with w | w
        · rw [w]; exact hs1
        · rw [hs1] at w; exact absurd w.1 (by decide)
      have rc1 := cnt_r (openB m1) (m 0).toNat
      cases K with
      | zero => omega
      | succ K =>
        obtain ⟨k, m', a2, b2, c2, d2, e2⟩ := sh_loop hPo hk hS hn K m1 B b c (d.2.2.2.1 hnc) hB (by omega) st1 (fun q x y => by
          rcases d.2.1 q (by omega) with w | w
          · rw [w]; exact hc1 q x (by omega)
          · rw [w.2.1]; decide) (by rw [e0]; omega)
        exact ⟨k + 1, m', ⟨hok, h01, Or.inr (Or.inr ⟨by omega, m1, by rw [hr, show 100 + (u : Int) - 100 = u by omega]; exact a, a2⟩)⟩, b2, c2, d.tr d2, e2⟩
theorem shuts_ex {pool : Nat → Int} (hPo : poolOk pool) {sink : Int} (hk : InR sink) : ∀ n : Nat, SX pool sink n
  | 0 => fun m s B h hsc hnc hB hn hs hc => by
    have := h.1.2.1
    omega
  | n + 1 => fun m s B h hsc hnc hB hn hs hc => by
    have hok := h.1
    have k0 := hok.2.1
    by_cases ho : m (18 + 4 * s) = 0
    · have e : ∀ q, ¬ q = 18 + 4 * s → updI m (18 + 4 * s) 1 q = m q := fun q a => updI_n a
      have hsc1 : ScI (updI m (18 + 4 * s) 1) := by
        obtain ⟨s1, s2, s3⟩ := hsc
        refine ⟨by rw [e _ (by omega)]; exact s1, ?_, fun c hcc => ?_⟩
        · by_cases z : s = 0
          · subst z; rw [updI_s]; decide
          · rw [e _ (by omega)]; exact s2
        · rw [e 0 (by omega)] at hcc
          obtain ⟨a, b⟩ := s3 c hcc
          rw [e (19 + 4 * c) (by omega), e (20 + 4 * c) (by omega), e 6 (by omega)]
          refine ⟨?_, fun h1 => ?_⟩
          · by_cases z : c = s
            · subst z; rw [updI_s]; decide
            · rw [e _ (by omega)]; exact a
          · obtain ⟨b1, b2, b3⟩ := b h1
            refine ⟨b1, b2, fun z => ?_⟩
            by_cases g : (m (19 + 4 * c)).toNat = s
            · rw [g, updI_s]; decide
            · rw [e _ (by omega)]
              refine b3 ?_
              by_cases g2 : c = s
              · subst g2; rw [ho]; decide
              · rw [e _ (by omega)] at z; exact z
      have hc2 : ∀ c : Nat, s < c → (c : Int) < updI m (18 + 4 * s) 1 0 → ¬ updI m (18 + 4 * s) 1 (18 + 4 * c) = 1 := fun c a b => by
        rw [e 0 (by omega)] at b
        rw [e _ (by omega)]; exact hc c a b
      have hr := cnt_r (openB (updI m (18 + 4 * s) 1)) (updI m (18 + 4 * s) 1 0).toNat
      obtain ⟨k, m2, a, b, c, d, f⟩ := sh_loop hPo hk (shuts_ex hPo hk n) (s := s) (by omega) 200 _ B (h.scope (by omega) (by decide)) hsc1 (fun t ht => by rw [e 1 (by omega)] at ht; rw [e _ (by omega)]; exact hnc t ht) hB (by rw [e 0 (by omega)]; exact hs) updI_s hc2 (by have := h.1.2.2.2.1; rw [e 2 (by omega)]; rw [e 0 (by omega)] at hr ⊢; omega)
      obtain ⟨d1, d2, d3, d4, d5⟩ := d
      have f0 : m2 0 = m 0 := (d1 0 (by unfold fat; omega)).trans (e 0 (by omega))
      have hno := lastM_no (m := m2) (s := (s : Int)) (N := (m2 1).toNat) (C := (m2 0).toNat) (by have := b.2.1; omega) f
      have g : ∀ q, ¬ q = 18 + 4 * s → updI m2 (18 + 4 * s) (if s = 0 then 0 else 2) q = m2 q := fun q a => updI_n a
      have rv : InR (if s = 0 then 0 else 2 : Int) := by split <;> decide
      have eqs : (18 + 4 * (s : Int)).toNat = 18 + 4 * s := by omega
      have eqi : (if (s : Int) = 0 then (0 : Int) else 2) = if s = 0 then 0 else 2 := by
        by_cases z : s = 0
        · subst z; rfl
        · rw [if_neg z, if_neg (by omega)]
      obtain ⟨c1, c2, c3⟩ := c
      refine ⟨updI m2 (18 + 4 * s) (if s = 0 then 0 else 2), ⟨hok, ⟨by omega, by omega⟩, Or.inr ⟨openP_nat.mpr ⟨hs, ho⟩, k, m2, by rw [eqs]; exact a, by rw [eqs, eqi]⟩⟩, b.scope (by omega) rv, ?_, ?_, fun _ => updI_s⟩
      · refine ⟨by rw [g _ (by omega)]; exact c1, ?_, fun u hu => ?_⟩
        · by_cases z : s = 0
          · subst z; rw [updI_s]; decide
          · rw [g _ (by omega)]; exact c2
        · rw [g 0 (by omega)] at hu
          obtain ⟨x, y⟩ := c3 u hu
          rw [g (19 + 4 * u) (by omega), g (20 + 4 * u) (by omega), g 6 (by omega)]
          refine ⟨?_, fun h1 => ?_⟩
          · by_cases z : u = s
            · subst z; rw [updI_s]; split <;> decide
            · rw [g _ (by omega)]; exact x
          · obtain ⟨b1, b2, b3⟩ := y h1
            refine ⟨b1, b2, fun z => ?_⟩
            by_cases q : (m2 (19 + 4 * u)).toNat = s
            · rw [q, updI_s]
              by_cases z0 : s = 0
              · rw [if_pos z0]; decide
              · exfalso
                have us : ¬ u = s := by omega
                rw [g _ (by omega)] at z
                have n1 : ¬ m2 (18 + 4 * u) = 0 := fun w => hno.2 u h1 (by omega) ⟨w, by omega, by omega⟩
                have n2 : m2 (18 + 4 * u) = 1 := by omega
                rcases d2 u (by omega) with w | w
                · rw [w] at n2
                  exact hc2 u (by omega) (by rw [e 0 (by omega)]; omega) n2
                · rw [w.2.1] at n2; exact absurd n2 (by decide)
            · rw [g _ (by omega)]
              refine b3 ?_
              by_cases g2 : u = s
              · subst g2
                intro w
                rcases d2 u (by omega) with w2 | w2
                · rw [w2, updI_s] at w; exact absurd w (by decide)
                · rw [updI_s] at w2; exact absurd w2.1 (by decide)
              · rw [g _ (by omega)] at z; exact z
      · refine ⟨fun q hq => ?_, fun u hu => ?_, ?_, fun z => ?_, fun t ht => ?_⟩
        · have q1 : ¬ q = 18 + 4 * s := by
            intro w
            subst w
            rcases hq with w | w | w | w | ⟨-, -, w⟩ | w
            · omega
            · omega
            · omega
            · omega
            · exact w s rfl
            · omega
          rw [g q q1, d1 q hq, e q q1]
        · by_cases z : u = s
          · subst z
            rw [updI_s, ho]
            by_cases z0 : u = 0
            · rw [if_pos z0]; exact Or.inl rfl
            · rw [if_neg z0]; exact Or.inr ⟨rfl, rfl, by omega⟩
          · rw [g _ (by omega)]
            have := d2 u hu
            rw [e _ (by omega)] at this
            exact this
        · rw [e 1 (by omega), e 2 (by omega), e 6 (by omega)] at d3
          rw [g 1 (by omega), g 2 (by omega), g 6 (by omega)]; exact d3
        · have y := d4 (fun t ht => by rw [e 1 (by omega)] at ht; rw [e _ (by omega)]; exact z t ht)
          intro t ht
          rw [g 1 (by omega)] at ht
          rw [g _ (by omega)]; exact y t ht
        · rw [g _ (by omega)]
          have := d5 t ht
          rw [e _ (by omega)] at this
          exact this
    · exact ⟨m, ⟨hok, ⟨by omega, by omega⟩, Or.inl ⟨fun z => ho (openP_nat.mp z).2, rfl⟩⟩, h, hsc, Es.rf, fun z => absurd z ho⟩

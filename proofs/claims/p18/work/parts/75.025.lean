section mg_78
end mg_78
section mg_79
/-! ===== every shutting comes to its end ===== -/
theorem loT_p {m : Nat → Int} {s : Int} : ∀ (n t : Nat) (r : Int × Int), (r.1 = -5 ∨ ∃ u : Nat, r.1 = u ∧ u < t ∧ m (258 + 14 * u) = 0 ∧ m (259 + 14 * u) = s) → ((loT m s n t r).1 = -5 ∨ ∃ u : Nat, (loT m s n t r).1 = u ∧ u < t + n ∧ m (258 + 14 * u) = 0 ∧ m (259 + 14 * u) = s)
  | 0, t, r, h => h
  | n + 1, t, r, h => by
    unfold loT
    rw [show t + (n + 1) = t + 1 + n by omega]
    refine loT_p n (t + 1) _ ?_
    split
    · rename_i c
      exact Or.inr ⟨t, rfl, by omega, by have := c.1; simpa [heldB] using this, c.2.1⟩
    · rcases h with h | ⟨u, a, b, c⟩
      · exact Or.inl h
      · exact Or.inr ⟨u, a, by omega, c⟩
theorem loS_p {m : Nat → Int} {s : Int} {N : Nat} : ∀ (n c : Nat) (r : Int × Int), 1 ≤ c → (r.1 = -5 ∨ (∃ u : Nat, r.1 = u ∧ u < N ∧ m (258 + 14 * u) = 0 ∧ m (259 + 14 * u) = s) ∨ ∃ u : Nat, r.1 = 100 + (u : Int) ∧ 1 ≤ u ∧ u < c ∧ m (18 + 4 * u) = 0 ∧ m (19 + 4 * u) = s) →
    ((loS m s n c r).1 = -5 ∨ (∃ u : Nat, (loS m s n c r).1 = u ∧ u < N ∧ m (258 + 14 * u) = 0 ∧ m (259 + 14 * u) = s) ∨ ∃ u : Nat, (loS m s n c r).1 = 100 + (u : Int) ∧ 1 ≤ u ∧ u < c + n ∧ m (18 + 4 * u) = 0 ∧ m (19 + 4 * u) = s)
  | 0, c, r, h1, h => h
  | n + 1, c, r, h1, h => by
    unfold loS
    rw [show c + (n + 1) = c + 1 + n by omega]
    refine loS_p n (c + 1) _ (by omega) ?_
    split
    · rename_i g
      exact Or.inr (Or.inr ⟨c, rfl, h1, by omega, by have := g.1; simpa [openB] using this, g.2.1⟩)
    · rcases h with h | h | ⟨u, a, b, d, e⟩
      · exact Or.inl h
      · exact Or.inr (Or.inl h)
      · exact Or.inr (Or.inr ⟨u, a, b, by omega, e⟩)
theorem lastM_p (m : Nat → Int) (s : Int) (N C : Nat) (hC : 1 ≤ C) : lastM m s N C = -5 ∨ (∃ u : Nat, lastM m s N C = u ∧ u < N ∧ m (258 + 14 * u) = 0 ∧ m (259 + 14 * u) = s) ∨ ∃ u : Nat, lastM m s N C = 100 + (u : Int) ∧ 1 ≤ u ∧ u < C ∧ m (18 + 4 * u) = 0 ∧ m (19 + 4 * u) = s := by
  have h := loS_p (m := m) (s := s) (N := N) (C - 1) 1 (loT m s N 0 (-5, -1)) (Nat.le_refl _) (by
    rcases loT_p (m := m) (s := s) N 0 (-5, -1) (Or.inl rfl) with h | ⟨u, a, b, c⟩
    · exact Or.inl h
    · exact Or.inr (Or.inl ⟨u, a, by omega, c⟩))
  rw [show 1 + (C - 1) = C by omega] at h
  exact h
theorem loT_up {m : Nat → Int} {s : Int} : ∀ (n t : Nat) (r : Int × Int), 0 ≤ r.1 → 0 ≤ (loT m s n t r).1
  | 0, _, _, h => h
  | n + 1, t, r, h => by
    unfold loT
    refine loT_up n (t + 1) _ ?_
    split
    · show (0 : Int) ≤ t; omega
    · exact h
theorem loS_up {m : Nat → Int} {s : Int} : ∀ (n c : Nat) (r : Int × Int), 0 ≤ r.1 → 0 ≤ (loS m s n c r).1
  | 0, _, _, h => h
  | n + 1, c, r, h => by
    unfold loS
    refine loS_up n (c + 1) _ ?_
    split
    · show (0 : Int) ≤ 100 + c; omega
    · exact h
theorem loT_no {m : Nat → Int} {s : Int} : ∀ (n t : Nat), (loT m s n t (-5, -1)).1 < 0 → loT m s n t (-5, -1) = (-5, -1) ∧ ∀ u, t ≤ u → u < t + n → ¬ (m (258 + 14 * u) = 0 ∧ m (259 + 14 * u) = s ∧ -1 ≤ m (260 + 14 * u))
  | 0, t, _ => ⟨rfl, fun u a b => by omega⟩
  | n + 1, t, h => by
    unfold loT at h ⊢
    split at h
    · rename_i c
      have := loT_up (m := m) (s := s) n (t + 1) ((t : Int), m (260 + 14 * t)) (by show (0 : Int) ≤ t; omega)
      omega
    · rename_i c
      rw [if_neg c]
      obtain ⟨a, b⟩ := loT_no n (t + 1) h
      refine ⟨a, fun u x y => ?_⟩
      by_cases e : u = t
      · subst e
        exact fun z => c ⟨by simp [heldB, z.1], z.2.1, z.2.2⟩
      · exact b u (by omega) (by omega)
theorem loS_no {m : Nat → Int} {s : Int} : ∀ (n c : Nat), (loS m s n c (-5, -1)).1 < 0 → ∀ u, c ≤ u → u < c + n → ¬ (m (18 + 4 * u) = 0 ∧ m (19 + 4 * u) = s ∧ -1 ≤ m (20 + 4 * u))
  | 0, c, _ => fun u a b => by omega
  | n + 1, c, h => by
    unfold loS at h
    split at h
    · rename_i g
      have := loS_up (m := m) (s := s) n (c + 1) (100 + (c : Int), m (20 + 4 * c)) (by show (0 : Int) ≤ 100 + c; omega)
      omega
    · rename_i g
      have b := loS_no n (c + 1) h
      intro u x y
      by_cases e : u = c
      · subst e
        exact fun z => g ⟨by simp [openB, z.1], z.2.1, z.2.2⟩
      · exact b u (by omega) (by omega)
theorem lastM_no {m : Nat → Int} {s : Int} {N C : Nat} (hC : 1 ≤ C) (h : lastM m s N C < 0) : (∀ u, u < N → ¬ (m (258 + 14 * u) = 0 ∧ m (259 + 14 * u) = s ∧ -1 ≤ m (260 + 14 * u))) ∧ ∀ u, 1 ≤ u → u < C → ¬ (m (18 + 4 * u) = 0 ∧ m (19 + 4 * u) = s ∧ -1 ≤ m (20 + 4 * u)) := by
  unfold lastM at h
  by_cases c : (loT m s N 0 (-5, -1)).1 < 0
  · obtain ⟨a, b⟩ := loT_no N 0 c
    rw [a] at h
    have d := loS_no (C - 1) 1 h
    exact ⟨fun u hu => b u (by omega) (by omega), fun u h1 h2 => d u h1 (by omega)⟩
  · have := loS_up (m := m) (s := s) (C - 1) 1 _ (show 0 ≤ (loT m s N 0 (-5, -1)).1 by omega)
    omega
/-! scopes -/
def NC (m : Nat → Int) : Prop := ∀ t : Nat, (t : Int) < m 1 → ¬ m (258 + 14 * t) = 1
theorem NC.cnt {m : Nat → Int} (h : NC m) (h1 : 0 ≤ m 1) : cnt (cngB m) (m 1).toNat = 0 := by
  have := cnt_none (p := cngB m) (N := 0) (m 1).toNat (fun j a b => decide_eq_false (h j (by omega)))
  rw [Nat.zero_add] at this
  exact this
def ScI (m : Nat → Int) : Prop := m 19 = -5 ∧ ¬ m 18 = 2 ∧ ∀ c : Nat, (c : Int) < m 0 → (0 ≤ m (18 + 4 * c) ∧ m (18 + 4 * c) ≤ 2) ∧ (1 ≤ c → (0 ≤ m (19 + 4 * c) ∧ m (19 + 4 * c) < c) ∧ (0 ≤ m (20 + 4 * c) ∧ m (20 + 4 * c) ≤ m 6) ∧ (¬ m (18 + 4 * c) = 2 → ¬ m (18 + 4 * (m (19 + 4 * c)).toNat) = 2))
def fat (q : Nat) : Prop := q = 0 ∨ q = 3 ∨ q = 7 ∨ q = 8 ∨ (18 ≤ q ∧ q < 258 ∧ ∀ c : Nat, q ≠ 18 + 4 * c) ∨ (1608 ≤ q ∧ q < 2328 ∧ ∀ t : Nat, q ≠ 1614 + 72 * t)
theorem fat_far {q : Nat} (h : fat q) : far q := by
  rcases h with h | h | h | h | h | h
  · exact Or.inl h
  · exact Or.inr (Or.inl h)
  · exact Or.inr (Or.inr (Or.inl h))
  · exact Or.inr (Or.inr (Or.inr (Or.inl h)))
  · exact Or.inr (Or.inr (Or.inr (Or.inr (Or.inl ⟨h.1, h.2.1⟩))))
  · exact Or.inr (Or.inr (Or.inr (Or.inr (Or.inr h))))
/-- what may have happened while scopes were shut -/
def Es (m m' : Nat → Int) : Prop :=
  (∀ q, fat q → m' q = m q) ∧ (∀ c : Nat, c < 60 → m' (18 + 4 * c) = m (18 + 4 * c) ∨ (m (18 + 4 * c) = 0 ∧ m' (18 + 4 * c) = 2 ∧ 1 ≤ c)) ∧ (m 1 ≤ m' 1 ∧ m 2 ≤ m' 2 ∧ m 6 ≤ m' 6) ∧ (NC m → NC m') ∧ (∀ t : Nat, t ≤ 9 → m' (1614 + 72 * t) = m (1614 + 72 * t) ∨ m' (1614 + 72 * t) = 1)
theorem Es.rf {m : Nat → Int} : Es m m := ⟨fun _ _ => rfl, fun _ _ => Or.inl rfl, ⟨Int.le_refl _, Int.le_refl _, Int.le_refl _⟩, id, fun _ _ => Or.inl rfl⟩
theorem Es.tr {a b c : Nat → Int} (h : Es a b) (k : Es b c) : Es a c := by
  obtain ⟨h1, h2, h3, h4, h5⟩ := h
  obtain ⟨k1, k2, k3, k4, k5⟩ := k
  refine ⟨fun q hq => (k1 q hq).trans (h1 q hq), fun u hu => ?_, by omega, fun z => k4 (h4 z), fun t ht => ?_⟩
  · rcases k2 u hu with w | w
    · rw [w]; exact h2 u hu
    · rcases h2 u hu with z | z
      · exact Or.inr ⟨by rw [← z]; exact w.1, w.2⟩
      · exact Or.inr ⟨z.1, w.2⟩
  · rcases k5 t ht with w | w
    · rw [w]; exact h5 t ht
    · exact Or.inr w
theorem Ev.es {m m' : Nat → Int} (h : Ev m m') : Es m m' := by
  obtain ⟨h1, h2, h3, h4, h5, h6⟩ := h
  refine ⟨fun q hq => h1 q (fat_far hq), fun c hc => Or.inl (h1 _ (by unfold far; omega)), by omega, fun z t ht => ?_, h6⟩
  by_cases g : (t : Int) < m 1
  · exact fun w => z t g ((h4 t g).2.2.1.mp w)
  · exact h5 t (by omega) ht
theorem Ev.sc {m m' : Nat → Int} (h : Ev m m') (k : ScI m) (h0 : m 0 ≤ 60) : ScI m' := by
  obtain ⟨k1, k2, k3⟩ := k
  have e : ∀ q, 18 ≤ q → q < 258 → m' q = m q := fun q a b => h.1 q (by unfold far; omega)
  have e0 : m' 0 = m 0 := h.1 0 (by unfold far; omega)
  have e6 := h.2.2.1.2
  refine ⟨by rw [e 19 (by omega) (by omega)]; exact k1, by rw [e 18 (by omega) (by omega)]; exact k2, fun c hc => ?_⟩
  rw [e0] at hc
  obtain ⟨a, b⟩ := k3 c hc
  rw [e (18 + 4 * c) (by omega) (by omega), e (19 + 4 * c) (by omega) (by omega), e (20 + 4 * c) (by omega) (by omega)]
  refine ⟨a, fun h1 => ?_⟩
  obtain ⟨b1, b2, b3⟩ := b h1
  rw [e (18 + 4 * (m (19 + 4 * c)).toNat) (by omega) (by omega)]
  exact ⟨b1, ⟨b2.1, by omega⟩, b3⟩
theorem openP_nat {m : Nat → Int} {s : Nat} : openP m (s : Int) ↔ ((s : Int) < m 0 ∧ m (18 + 4 * s) = 0) := by
  unfold openP
  rw [show (18 + 4 * (s : Int)).toNat = 18 + 4 * s by omega]
  constructor
  · intro h; exact ⟨by omega, h.2.2⟩
  · intro h; exact ⟨by omega, by omega, h.2⟩
/-- a scope's state changes -/
theorem Inv.scope {m pool : Nat → Int} {B : Int} (h : Inv m pool B) {s : Nat} (hs : s < 60) {v : Int} (hv : InR v) : Inv (updI m (18 + 4 * s) v) pool B := h.out hv (by omega) (by omega)
def SX (pool : Nat → Int) (sink : Int) (n : Nat) : Prop := ∀ (m : Nat → Int) (s : Nat) (B : Int), Inv m pool B → ScI m → NC m → B ≤ 1900000000 → 61 ≤ n + s → (s : Int) < m 0 → (∀ c : Nat, s < c → (c : Int) < m 0 → ¬ m (18 + 4 * c) = 1) →
  ∃ m', shutsR pool sink n m s m' ∧ Inv m' pool B ∧ ScI m' ∧ Es m m' ∧ (m (18 + 4 * s) = 0 → m' (18 + 4 * s) = if s = 0 then 0 else 2)
end mg_79

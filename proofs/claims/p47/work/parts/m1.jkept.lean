/-! ===== it is kept by closings, shuts and turns ===== -/
def KP (m m' : Nat → Int) : Prop := (m' 0 = m 0 ∧ m 1 ≤ m' 1) ∧ (∀ q, 18 ≤ q → q < 258 → m' q = m q) ∧ (∀ t : Nat, (t : Int) < m 1 → m (258 + 14 * t) = 1 → m' (258 + 14 * t) = 1) ∧ (∀ t : Nat, (t : Int) < m' 1 → m' (258 + 14 * t) = 1 → (t : Int) < m 1 ∧ m (258 + 14 * t) = 1) ∧ JI m'
section M1
variable {m m' m1 m2 pool : Nat → Int} {cl : (Nat → Int) → Nat → (Nat → Int) → Prop} {sh : (Nat → Int) → Int → (Nat → Int) → Prop}
theorem KP.rf (h : JI m) : KP m m := ⟨⟨rfl, Int.le_refl _⟩, fun _ _ _ => rfl, fun _ _ h => h, fun _ h1 h2 => ⟨h1, h2⟩, h⟩
theorem KP.tr (a : KP m m1) (b : KP m1 m2) : KP m m2 :=
  ⟨⟨b.1.1.trans a.1.1, Int.le_trans a.1.2 b.1.2⟩, fun q h1 h2 => (b.2.1 q h1 h2).trans (a.2.1 q h1 h2), fun t h1 h2 => b.2.2.1 t (Int.lt_of_lt_of_le h1 a.1.2) (a.2.2.1 t h1 h2), fun t h1 h2 => (fun z => a.2.2.2.1 t z.1 z.2) (b.2.2.2.1 t h1 h2), b.2.2.2.2⟩
theorem KP.same (h : JI m) (e : ∀ q, jC q → m' q = m q) : KP m m' := by
  have e0 := e 0 (by unfold jC; omega)
  have e1 := e 1 (by unfold jC; omega)
  have h1 := h.1.2.1.2
  refine ⟨⟨e0, by omega⟩, fun q h1 h2 => e q (by unfold jC; omega), fun t ht hs => ?_, fun t ht hs => ?_, h.congr e⟩
  · rw [e _ (by unfold jC; omega)]; exact hs
  · rw [e _ (by unfold jC; omega)] at hs
    exact ⟨by omega, hs⟩
theorem stp_J (hcl : ∀ (m : Nat → Int) (t : Nat) (m' : Nat → Int), JI m → (t : Int) < m 1 → cl m t m' → KP m m') (h : JI m) {p : Nat} {s2 f : Int} (r : stpR pool cl m p s2 f m') : KP m m' := by
  obtain ⟨hok, hs, hp, r⟩ := r
  have b1 := h.1.2.1
  rcases r with ⟨-, ⟨d1, d2⟩, -, n, -, rfl⟩ | ⟨-, rfl, -⟩ | ⟨-, n, -, -, -, rfl⟩ | ⟨-, r⟩ | ⟨-, n, -, -, r⟩ | ⟨-, ⟨d1, d2⟩, -, rfl⟩ | ⟨-, -, rfl⟩
  · exact KP.same h (fun q hq => updI_n (by unfold jC at hq; omega))
  · exact KP.rf h
  · unfold takenM
    split
    · rename_i hv
      unfold takenV at hv
      split at hv
      · rename_i ho
        split at hv
        · exact absurd hv (by decide)
        · rename_i hb
          split at hv
          · exact absurd hv (by decide)
          · rename_i h90
            have nb := neL_ge (pool := pool) 7 (p + 1)
            obtain ⟨o1, o2, o3⟩ := ho
            obtain ⟨N, hN⟩ : ∃ N : Nat, m 1 = N := ⟨(m 1).toNat, by omega⟩
            have eN : (m 1).toNat = N := by omega
            rw [eN] at h90 hb ⊢
            have h7 : neL pool 7 (p + 1) - (p + 1) ≤ 7 := by omega
            refine ⟨⟨takesM_n h7 (by omega) (by omega) (by omega), by rw [takesM_1]; omega⟩, fun q h1 h2 => takesM_n h7 (by omega) (by omega) (by omega), fun t ht hs => ?_, fun t ht hs => ?_, J_take h hN (by omega) h7 (by omega) ⟨s2.toNat, by omega, by omega, ?_⟩ (by omega)⟩
            · rw [takesM_n h7 (by omega) (by omega) (by omega)]; exact hs
            · rw [takesM_1] at ht
              by_cases z : t = N
              · subst z; rw [takesM_st] at hs; exact absurd hs (by decide)
              · rw [takesM_n h7 (by omega) (by omega) (by omega)] at hs
                exact ⟨by omega, hs⟩
            · rw [show (18 + 4 * s2).toNat = 18 + 4 * s2.toNat by omega] at o3
              rw [o3]; decide
      · exact absurd hv (by decide)
    · exact KP.rf h
  · rcases r with ⟨-, -, rfl⟩ | ⟨hb, -, r⟩
    · exact KP.rf h
    · obtain ⟨u, k1, -, k2, -⟩ := hbL_yes _ _ hb
      exact hcl _ _ _ h (by omega) r
  · rcases r with ⟨-, -, rfl⟩ | ⟨-, -, -, rfl⟩ | ⟨hb, ho, -, rfl⟩
    · exact KP.rf h
    · exact KP.rf h
    · obtain ⟨u, k1, -, k2, -⟩ := hbL_yes _ _ hb
      obtain ⟨o1, o2, o3⟩ := ho
      rw [k1, show ((u : Int)).toNat = u by omega]
      have nn : ∀ q, ¬ q = 6 → ¬ q = 259 + 14 * u → ¬ q = 260 + 14 * u → movesM m u (numAt pool n (neL pool 7 (p + 1) + 1)) q = m q := fun q h1 h2 h3 => by
        unfold movesM
        rw [updI_n h3, updI_n h1, updI_n h2]
      have z1 := nn 1 (by omega) (by omega) (by omega)
      refine ⟨⟨nn 0 (by omega) (by omega) (by omega), by omega⟩, fun q h1 h2 => nn q (by omega) (by omega) (by omega), fun t ht hs => ?_, fun t ht hs => ?_, J_move h (by omega) ⟨_, (Int.toNat_of_nonneg o1).symm, by omega, ?_⟩⟩
      · rw [nn _ (by omega) (by omega) (by omega)]; exact hs
      · rw [nn _ (by omega) (by omega) (by omega)] at hs
        exact ⟨by omega, hs⟩
      · rw [show 18 + 4 * (numAt pool n (neL pool 7 (p + 1) + 1)).toNat = (18 + 4 * numAt pool n (neL pool 7 (p + 1) + 1)).toNat by omega, o3]; decide
  · split
    · exact KP.same h (fun q hq => updI_n (by unfold jC at hq; omega))
    · exact KP.rf h
  · exact KP.rf h
theorem does_J (hcl : ∀ (m : Nat → Int) (t : Nat) (m' : Nat → Int), JI m → (t : Int) < m 1 → cl m t m' → KP m m') (h : JI m) {p : Nat} {s2 f : Int} (r : doesR pool cl m p s2 f m') : KP m m' := by
  rcases r with r | ⟨-, -, -, -, -, n, k, -, -, -, -, -, r⟩
  · exact stp_J hcl h r
  · rcases r with ⟨-, r⟩ | ⟨-, -, rfl⟩
    · exact stp_J hcl h r
    · exact KP.rf h
theorem loop_J (hcl : ∀ (m : Nat → Int) (t : Nat) (m' : Nat → Int), JI m → (t : Int) < m 1 → cl m t m' → KP m m') {t E : Nat} : ∀ (k : Nat) (m : Nat → Int) (p : Nat) (f : Int) (m' : Nat → Int), JI m → loopR pool (doesR pool cl) t E k m p f m' → KP m m'
  | 0, m, p, f, m', h, r => by
    obtain ⟨-, -, rfl⟩ := r
    exact KP.rf h
  | k + 1, m, p, f, m', h, r => by
    rcases r with ⟨-, -, rfl⟩ | ⟨-, f1, m1, r, -, q⟩
    · exact KP.rf h
    · have a := does_J hcl h r
      rcases q with ⟨-, -, rfl⟩ | ⟨-, q⟩
      · exact a
      · exact a.tr (loop_J hcl k m1 _ _ _ a.2.2.2.2 q)
theorem gath_J (h : JI m) (h4 : 0 ≤ m 4) (h5 : 0 ≤ m 5) {sink f t : Int} : KP m (gathersM m sink f t) := by
  refine KP.same h (fun q hq => ?_)
  unfold jC at hq
  unfold gathersM
  split
  · rw [updI_n (by omega), updI_n (by omega), updI_n (by omega)]
  · rw [updI_n (by omega), updI_n (by omega), updI_n (by omega), updI_n (by omega)]
theorem closes_J {sink : Int} : ∀ (n : Nat) (m : Nat → Int) (t : Nat) (m' : Nat → Int), JI m → (t : Int) < m 1 → closesR pool sink n m t m' → KP m m'
  | 0, _, _, _, _, _, r => r.elim
  | n + 1, m, t, m', h, ht, r => by
    obtain ⟨hok, h89, r⟩ := r
    rcases r with ⟨-, rfl⟩ | ⟨h0, p, E, k, f, m2, -, -, -, -, lp, hok2, -, h2, h4, h5, rfl⟩
    · exact KP.rf h
    · have a := J_closing h ht h0
      have z1 : updI m (258 + 14 * t) 1 1 = m 1 := updI_n (by omega)
      have L := loop_J (closes_J n) k _ _ _ _ a lp
      have s1 : m2 (258 + 14 * t) = 1 := L.2.2.1 t (by omega) updI_s
      have G : KP m2 (if f = 0 then m2 else gathersM m2 sink f t) := by
        split
        · exact KP.rf L.2.2.2.2
        · exact gath_J L.2.2.2.2 hok2.2.2.2.2.2.1.1 hok2.2.2.2.2.2.2.1.1
      have e2 : (if f = 0 then m2 else gathersM m2 sink f t) 2 = m2 2 := by
        split
        · rfl
        · unfold gathersM
          have q4 := hok2.2.2.2.2.2.1.1
          have q5 := hok2.2.2.2.2.2.2.1.1
          split
          · rw [updI_n (by omega), updI_n (by omega), updI_n (by omega)]
          · rw [updI_n (by omega), updI_n (by omega), updI_n (by omega), updI_n (by omega)]
      generalize (if f = 0 then m2 else gathersM m2 sink f t) = m3 at G e2 ⊢
      have l1 := L.1.2
      have g1 := G.1.2
      have b2 := G.2.2.2.2.1.2.2.1
      have s3 := G.2.2.1 t (by omega) s1
      have J3 := J_closed G.2.2.2.2 (by omega) s3 (by omega)
      obtain ⟨c2, cs, cn⟩ := closedM_at (m := m3) (t := t) ⟨by omega, by omega⟩ h89
      have c1 := cn 1 (by omega) (by omega) (by omega) (by omega)
      have b1 := J3.1.2.1
      refine ⟨⟨?_, by omega⟩, fun q q1 q2 => ?_, fun u hu hs => ?_, fun u hu hs => ?_, J3⟩
      · rw [cn 0 (by omega) (by omega) (by omega) (by omega), G.1.1, L.1.1, updI_n (by omega)]
      · rw [cn q (by omega) (by omega) (by omega) (by omega), G.2.1 q q1 q2, L.2.1 q q1 q2, updI_n (by omega)]
      · have hu' : ¬ u = t := fun e => by rw [e, h0] at hs; exact absurd hs (by decide)
        rw [cn _ (by omega) (by omega) (by omega) (by omega)]
        exact G.2.2.1 u (by omega) (L.2.2.1 u (by omega) (by rw [updI_n (by omega)]; exact hs))
      · have hu' : ¬ u = t := fun e => by rw [e, cs] at hs; exact absurd hs (by decide)
        rw [cn _ (by omega) (by omega) (by omega) (by omega)] at hs
        have y := G.2.2.2.1 u (by omega) hs
        have x := L.2.2.2.1 u y.1 y.2
        obtain ⟨x1, x2⟩ := x
        rw [updI_n (by omega)] at x1
        rw [updI_n (by omega)] at x2
        exact ⟨by omega, x2⟩
theorem KP.nc (a : KP m m') (h : NC m) : NC m' := fun t ht hs => (fun z => h t z.1 z.2) (a.2.2.2.1 t ht hs)
/-! the last entry -/
theorem loT_in {s : Int} : ∀ (n t : Nat) (r : Int × Int), (loT m s n t r).1 = r.1 ∨ ∃ u : Nat, t ≤ u ∧ u < t + n ∧ (loT m s n t r).1 = u
  | 0, _, _ => Or.inl rfl
  | n + 1, t, r => by
    have e : loT m s (n + 1) t r = loT m s n (t + 1) (if heldB m t = true ∧ m (259 + 14 * t) = s ∧ r.2 ≤ m (260 + 14 * t) then ((t : Int), m (260 + 14 * t)) else r) := rfl
    rw [e]
    rcases loT_in n (t + 1) (if heldB m t = true ∧ m (259 + 14 * t) = s ∧ r.2 ≤ m (260 + 14 * t) then ((t : Int), m (260 + 14 * t)) else r) with z | ⟨u, z1, z2, z3⟩
    · rw [z]
      split
      · exact Or.inr ⟨t, Nat.le_refl _, by omega, rfl⟩
      · exact Or.inl rfl
    · exact Or.inr ⟨u, by omega, by omega, z3⟩
theorem loS_in {s : Int} : ∀ (n c : Nat) (r : Int × Int), (loS m s n c r).1 = r.1 ∨ ∃ u : Nat, c ≤ u ∧ u < c + n ∧ (loS m s n c r).1 = 100 + u
  | 0, _, _ => Or.inl rfl
  | n + 1, c, r => by
    have e : loS m s (n + 1) c r = loS m s n (c + 1) (if openB m c = true ∧ m (19 + 4 * c) = s ∧ r.2 ≤ m (20 + 4 * c) then (100 + (c : Int), m (20 + 4 * c)) else r) := rfl
    rw [e]
    rcases loS_in n (c + 1) (if openB m c = true ∧ m (19 + 4 * c) = s ∧ r.2 ≤ m (20 + 4 * c) then (100 + (c : Int), m (20 + 4 * c)) else r) with z | ⟨u, z1, z2, z3⟩
    · rw [z]
      split
      · exact Or.inr ⟨c, Nat.le_refl _, by omega, rfl⟩
      · exact Or.inl rfl
    · exact Or.inr ⟨u, by omega, by omega, z3⟩
theorem jloT_no {s : Int} : ∀ (n t : Nat), (loT m s n t (-5, -1)).1 < 0 → (∀ u, t ≤ u → u < t + n → ¬ (heldB m u = true ∧ m (259 + 14 * u) = s ∧ -1 ≤ m (260 + 14 * u))) ∧ loT m s n t (-5, -1) = (-5, -1)
  | 0, t, _ => ⟨fun u h1 h2 => by omega, rfl⟩
  | n + 1, t, h => by
    have e : loT m s (n + 1) t (-5, -1) = loT m s n (t + 1) (if heldB m t = true ∧ m (259 + 14 * t) = s ∧ -1 ≤ m (260 + 14 * t) then ((t : Int), m (260 + 14 * t)) else (-5, -1)) := rfl
    rw [e] at h ⊢
    by_cases c : heldB m t = true ∧ m (259 + 14 * t) = s ∧ -1 ≤ m (260 + 14 * t)
    · rw [if_pos c] at h
      rcases loT_in (m := m) (s := s) n (t + 1) ((t : Int), m (260 + 14 * t)) with z | ⟨u, z1, z2, z3⟩
      · rw [z] at h
        exact absurd h (by show ¬ (t : Int) < 0; omega)
      · rw [z3] at h
        omega
    · rw [if_neg c] at h ⊢
      obtain ⟨k1, k2⟩ := jloT_no n (t + 1) h
      refine ⟨fun u h1 h2 => ?_, k2⟩
      by_cases y : u = t
      · rw [y]; exact c
      · exact k1 u (by omega) (by omega)
theorem jloS_no {s : Int} : ∀ (n t : Nat), (loS m s n t (-5, -1)).1 < 0 → ∀ u, t ≤ u → u < t + n → ¬ (openB m u = true ∧ m (19 + 4 * u) = s ∧ -1 ≤ m (20 + 4 * u))
  | 0, t, _ => fun u h1 h2 => by omega
  | n + 1, t, h => by
    have e : loS m s (n + 1) t (-5, -1) = loS m s n (t + 1) (if openB m t = true ∧ m (19 + 4 * t) = s ∧ -1 ≤ m (20 + 4 * t) then (100 + (t : Int), m (20 + 4 * t)) else (-5, -1)) := rfl
    rw [e] at h
    by_cases c : openB m t = true ∧ m (19 + 4 * t) = s ∧ -1 ≤ m (20 + 4 * t)
    · rw [if_pos c] at h
      rcases loS_in (m := m) (s := s) n (t + 1) (100 + (t : Int), m (20 + 4 * t)) with z | ⟨u, z1, z2, z3⟩
      · rw [z] at h
        exact absurd h (by show ¬ 100 + (t : Int) < 0; omega)
      · rw [z3] at h
        omega
    · rw [if_neg c] at h
      intro u h1 h2
      by_cases y : u = t
      · rw [y]; exact c
      · exact jloS_no n (t + 1) h u (by omega) (by omega)
theorem last_lt {s : Int} (h0 : 0 ≤ lastI m s) (h1 : lastI m s < 100) (hm : 0 ≤ m 1) : ((lastI m s).toNat : Int) < m 1 := by
  unfold lastI lastM at h0 h1 ⊢
  rcases loS_in (m := m) (s := s) ((m 0).toNat - 1) 1 (loT m s (m 1).toNat 0 (-5, -1)) with z | ⟨u, z1, z2, z3⟩
  · rw [z] at h0 h1 ⊢
    rcases loT_in (m := m) (s := s) (m 1).toNat 0 (-5, -1) with y | ⟨u, y1, y2, y3⟩
    · rw [y] at h0; exact absurd h0 (by decide)
    · rw [y3]; omega
  · rw [z3] at h1; omega
/-- where there is no last entry: nothing held, nothing open -/
theorem last_no {s : Int} (h : JI m) (hl : lastI m s < 0) : (∀ t : Nat, (t : Int) < m 1 → m (258 + 14 * t) = 0 → ¬ m (259 + 14 * t) = s) ∧ ∀ c : Nat, 1 ≤ c → (c : Int) < m 0 → m (18 + 4 * c) = 0 → ¬ m (19 + 4 * c) = s := by
  obtain ⟨-, -, -, -, hR, hS⟩ := h
  unfold lastI lastM at hl
  have hT : (loT m s (m 1).toNat 0 (-5, -1)).1 < 0 := by
    rcases loT_in (m := m) (s := s) (m 1).toNat 0 (-5, -1) with y | ⟨u, y1, y2, y3⟩
    · rw [y]; decide
    · rcases loS_in (m := m) (s := s) ((m 0).toNat - 1) 1 (loT m s (m 1).toNat 0 (-5, -1)) with z | ⟨v, z1, z2, z3⟩
      · rw [z] at hl; exact hl
      · rw [z3] at hl; omega
  obtain ⟨k1, k2⟩ := jloT_no _ _ hT
  rw [k2] at hl
  have k3 := jloS_no _ _ hl
  refine ⟨fun t ht h0 e => ?_, fun c c1 hc h0 e => ?_⟩
  · exact k1 t (Nat.zero_le _) (by omega) ⟨decide_eq_true h0, e, by have := (hR t ht).2.1; omega⟩
  · exact k3 c c1 (by omega) ⟨decide_eq_true h0, e, by have := hS c hc c1; omega⟩
/-! shuts -/
def KS (m m' : Nat → Int) : Prop := (m' 0 = m 0 ∧ m 1 ≤ m' 1) ∧ (∀ q, 18 ≤ q → q < 258 → (∀ c : Nat, q ≠ 18 + 4 * c) → m' q = m q) ∧ (∀ c : Nat, c < 60 → m' (18 + 4 * c) = m (18 + 4 * c) ∨ (m (18 + 4 * c) = 0 ∧ m' (18 + 4 * c) = 2)) ∧ NC m' ∧ JI m'
theorem KS.rf (h : JI m) (n : NC m) : KS m m := ⟨⟨rfl, Int.le_refl _⟩, fun _ _ _ _ => rfl, fun _ _ => Or.inl rfl, n, h⟩
theorem KS.tr (a : KS m m1) (b : KS m1 m2) : KS m m2 := by
  refine ⟨⟨b.1.1.trans a.1.1, Int.le_trans a.1.2 b.1.2⟩, fun q h1 h2 h3 => (b.2.1 q h1 h2 h3).trans (a.2.1 q h1 h2 h3), fun c hc => ?_, b.2.2.2⟩
  rcases b.2.2.1 c hc with x | ⟨x1, x2⟩
  · rw [x]; exact a.2.2.1 c hc
  · rcases a.2.2.1 c hc with y | ⟨y1, y2⟩
    · exact Or.inr ⟨by rw [← y]; exact x1, x2⟩
    · rw [x1] at y2; exact absurd y2 (by decide)
theorem KP.ks (a : KP m m') (h : NC m) : KS m m' := ⟨a.1, fun q h1 h2 _ => a.2.1 q h1 h2, fun c hc => Or.inl (a.2.1 _ (by omega) (by omega)), a.nc h, a.2.2.2.2⟩
theorem KS.same (h : JI m) (n : NC m) (e : ∀ q, jC q → m' q = m q) : KS m m' := (KP.same h e).ks n
theorem shl_J (hcl : ∀ (m : Nat → Int) (t : Nat) (m' : Nat → Int), JI m → (t : Int) < m 1 → cl m t m' → KP m m') (hsh : ∀ m a m', JI m → NC m → sh m a m' → KS m m') {s : Int} : ∀ (k : Nat) (m m' : Nat → Int), JI m → NC m → shLoopR cl sh s k m m' → KS m m' ∧ lastI m' s < 0
  | 0, m, m', h, n, r => by
    obtain ⟨-, -, r1, rfl⟩ := r
    exact ⟨KS.rf h n, r1⟩
  | k + 1, m, m', h, n, r => by
    obtain ⟨-, -, r⟩ := r
    rcases r with ⟨r1, rfl⟩ | ⟨⟨r1, r2⟩, m1, r3, r4⟩ | ⟨-, m1, r3, r4⟩
    · exact ⟨KS.rf h n, r1⟩
    · have a := (hcl _ _ _ h (last_lt r1 r2 h.1.2.1.1) r3).ks n
      have b := shl_J hcl hsh k m1 m' a.2.2.2.2 a.2.2.2.1 r4
      exact ⟨a.tr b.1, b.2⟩
    · have a := hsh _ _ _ h n r3
      have b := shl_J hcl hsh k m1 m' a.2.2.2.2 a.2.2.2.1 r4
      exact ⟨a.tr b.1, b.2⟩
/-- a scope that was shut: nothing held or open stands in it, until the root is open again -/
theorem shuts_J {sink : Int} : ∀ (n : Nat) (m : Nat → Int) (s : Int) (m' : Nat → Int), JI m → NC m → shutsR pool sink n m s m' → KS m m' ∧ (openP m s → (∀ t : Nat, (t : Int) < m' 1 → m' (258 + 14 * t) = 0 → ¬ m' (259 + 14 * t) = s) ∧ (∀ c : Nat, 1 ≤ c → (c : Int) < m' 0 → m' (18 + 4 * c) = 0 → ¬ m' (19 + 4 * c) = s) ∧ m' (18 + 4 * s).toNat = if s = 0 then 0 else 2)
  | 0, _, _, _, _, _, r => r.elim
  | n + 1, m, s, m', h, nc, r => by
    obtain ⟨hok, hs, r⟩ := r
    rcases r with ⟨ho, rfl⟩ | ⟨ho, k, m2, lp, rfl⟩
    · exact ⟨KS.rf h nc, fun z => absurd z ho⟩
    · obtain ⟨a, rfl⟩ : ∃ a : Nat, s = a := ⟨s.toNat, by have := ho.1; omega⟩
      have ea : (18 + 4 * (a : Int)).toNat = 18 + 4 * a := by omega
      obtain ⟨o1, o2, o3⟩ := ho
      rw [ea] at o3 lp ⊢
      have b0 := h.1.1
      have h1 : JI (updI m (18 + 4 * a) 1) := J_scope h (by omega) (fun e => absurd e (by decide))
      have z1 : updI m (18 + 4 * a) 1 1 = m 1 := updI_n (by omega)
      have n1 : NC (updI m (18 + 4 * a) 1) := fun t ht => by
        rw [updI_n (by omega)]
        exact nc t (by omega)
      obtain ⟨K, hl⟩ := shl_J (closes_J 91) (fun m b m' x y z => (shuts_J n m b m' x y z).1) k _ _ h1 n1 lp
      have e0 : m2 0 = m 0 := K.1.1.trans (updI_n (by omega))
      have l1 := K.1.2
      have J2 := K.2.2.2.2
      have nc2 := K.2.2.2.1
      obtain ⟨q1, q2⟩ := last_no J2 hl
      have J3 : JI (updI m2 (18 + 4 * a) (if (a : Int) = 0 then 0 else 2)) := J_scope J2 (by omega) (fun _ t ht h2 e => by
        have y := (J2.2.2.2.2.1 t ht).1
        have x := nc2 t ht
        exact q1 t ht (by omega) e)
      have w1 : updI m2 (18 + 4 * a) (if (a : Int) = 0 then 0 else 2) 1 = m2 1 := updI_n (by omega)
      have w0 : updI m2 (18 + 4 * a) (if (a : Int) = 0 then 0 else 2) 0 = m2 0 := updI_n (by omega)
      have b2 := J2.1.2.1
      refine ⟨⟨⟨w0.trans e0, by omega⟩, fun q x1 x2 x3 => ?_, fun c hc => ?_, fun t ht => ?_, J3⟩, fun _ => ⟨fun t ht hh => ?_, fun c c1 hc hh => ?_, updI_s⟩⟩
      · rw [updI_n (x3 a), K.2.1 q x1 x2 x3, updI_n (x3 a)]
      · by_cases z : c = a
        · subst z
          rw [updI_s]
          by_cases y : (c : Int) = 0
          · rw [if_pos y, o3]; exact Or.inl rfl
          · rw [if_neg y]; exact Or.inr ⟨o3, rfl⟩
        · rw [updI_n (by omega)]
          have y := K.2.2.1 c hc
          rw [updI_n (by omega)] at y
          exact y
      · rw [updI_n (by omega)]
        exact nc2 t (by omega)
      · rw [updI_n (by omega)] at hh ⊢
        exact q1 t (by omega) hh
      · by_cases z : c = a
        · subst z
          rw [updI_n (by omega)]
          intro e
          rw [updI_s] at hh
          split at hh
          · omega
          · exact absurd hh (by decide)
        · rw [updI_n (by omega)] at hh ⊢
          exact q2 c c1 (by omega) hh
/-! turns -/
def KT (m m' : Nat → Int) : Prop := m 0 ≤ m' 0 ∧ m 1 ≤ m' 1 ∧ NC m' ∧ JI m'
theorem KT.tr (a : KT m m1) (b : KT m1 m2) : KT m m2 := ⟨Int.le_trans a.1 b.1, Int.le_trans a.2.1 b.2.1, b.2.2⟩
theorem KS.kt (a : KS m m') : KT m m' := ⟨by rw [a.1.1]; exact Int.le_refl _, a.1.2, a.2.2.2⟩
theorem KT.rf (h : JI m) (n : NC m) : KT m m := (KS.rf h n).kt
theorem KT.same (h : JI m) (n : NC m) (e : ∀ q, jC q → m' q = m q) : KT m m' := (KS.same h n e).kt
theorem KT.upd {a : Nat} {v : Int} (k : KT m m1) (ha : ¬ jC a) : KT m (updI m1 a v) := k.tr (KT.same k.2.2.2 k.2.2.1 (fun q hq => updI_n (fun e => ha (by rw [← e]; exact hq))))
theorem over_J (hsh : ∀ m a m', JI m → NC m → sh m a m' → KS m m') {t : Nat} : ∀ (n : Nat) (m m' : Nat → Int), JI m → NC m → overR sh t n m m' → KT m m'
  | 0, m, m', h, nc, r => by
    obtain rfl : m' = m := r
    exact KT.rf h nc
  | n + 1, m, m', h, nc, r => by
    obtain ⟨-, m1, r1, r2⟩ := r
    have a := (hsh _ _ _ h nc r1).kt
    exact a.tr (over_J hsh n m1 m' a.2.2.2 a.2.2.1 r2)
theorem isOver_J (hsh : ∀ m a m', JI m → NC m → sh m a m' → KS m m') {t : Nat} {st : Int} (h : JI m) (nc : NC m) (r : isOverR sh t st m m') : KT m m' := by
  obtain ⟨ht, n, -, -, r⟩ := r
  have a := (KT.rf h nc).upd (a := 1610 + 72 * t) (v := st) (by unfold jC; omega)
  exact a.tr (over_J hsh n _ _ a.2.2.2 a.2.2.1 r)
theorem doesIn_J (hcl : ∀ (m : Nat → Int) (t : Nat) (m' : Nat → Int), JI m → (t : Int) < m 1 → cl m t m' → KP m m') (hsh : ∀ m a m', JI m → NC m → sh m a m' → KS m m') {t p : Nat} {f : Int} (h : JI m) (nc : NC m) (r : doesInR pool cl sh m t p f m') : KT m m' := by
  obtain ⟨hok, h9, -, n, hn, -, r⟩ := r
  rcases r with ⟨-, r⟩ | ⟨-, -, r⟩ | ⟨-, -, r⟩
  · rcases r with ⟨-, -, rfl⟩ | ⟨-, -, -, rfl⟩ | ⟨h60, ho, -, rfl⟩
    · exact KT.rf h nc
    · exact KT.rf h nc
    · have b0 := h.1.1
      obtain ⟨N, hN⟩ : ∃ N : Nat, m 0 = N := ⟨(m 0).toNat, by omega⟩
      rw [show (m 0).toNat = N by omega]
      have hJ := J_opens (p := m (1619 + 72 * t + n)) (t := (t : Int)) h hN (by omega)
      obtain ⟨o0, -, -, -, -, -, nn⟩ := opensM_at (m := m) (C := N) (p := m (1619 + 72 * t + n)) (t := (t : Int))
      have z1 := nn 1 (by omega) (by omega) (by omega)
      have k : KT m (opensM m N (m (1619 + 72 * t + n)) t) := ⟨by omega, by omega, fun u hu => by
        rw [nn _ (by omega) (by omega) (by omega)]
        exact nc u (by omega), hJ⟩
      exact (k.upd (by unfold jC; omega)).upd (by unfold jC; omega)
  · have a := (KT.rf h nc).upd (a := 1619 + 72 * t) (v := n - 1) (by unfold jC; omega)
    exact a.tr (hsh _ _ _ a.2.2.2 a.2.2.1 r).kt
  · exact ((does_J hcl h r).ks nc).kt
theorem turnFin_J (hsh : ∀ m a m', JI m → NC m → sh m a m' → KS m m') {t E p : Nat} (h9 : t ≤ 9) (h : JI m) (nc : NC m) (r : turnFinR sh t E m p m') : KT m m' := by
  obtain ⟨-, -, r⟩ := r
  have a := (KT.rf h nc).upd (a := 1611 + 72 * t) (v := p) (by unfold jC; omega)
  rcases r with ⟨-, rfl⟩ | ⟨-, r⟩
  · exact a
  · exact a.tr (isOver_J hsh a.2.2.2 a.2.2.1 r)
theorem turnLoop_J (hcl : ∀ (m : Nat → Int) (t : Nat) (m' : Nat → Int), JI m → (t : Int) < m 1 → cl m t m' → KP m m') (hsh : ∀ m a m', JI m → NC m → sh m a m' → KS m m') {t E : Nat} (h9 : t ≤ 9) : ∀ (k : Nat) (m : Nat → Int) (p : Nat) (m' : Nat → Int), JI m → NC m → turnLoopR pool cl sh t E k m p m' → KT m m'
  | 0, m, p, m', h, nc, r => turnFin_J hsh h9 h nc r.2
  | k + 1, m, p, m', h, nc, r => by
    rcases r with ⟨-, r⟩ | ⟨-, f, m1, r1, -, -, r⟩
    · exact turnFin_J hsh h9 h nc r
    · have a := doesIn_J hcl hsh h nc r1
      rcases r with ⟨-, r⟩ | ⟨-, ⟨-, r⟩ | ⟨-, r⟩⟩
      · have b := a.upd (a := 1618 + 72 * t) (v := f) (by unfold jC; omega)
        exact b.tr (isOver_J hsh b.2.2.2 b.2.2.1 r)
      · have b := a.upd (a := 1615 + 72 * t) (v := m1 (1615 + 72 * t) + 1) (by unfold jC; omega)
        exact b.tr (turnFin_J hsh h9 b.2.2.2 b.2.2.1 r)
      · have b := a.upd (a := 1615 + 72 * t) (v := m1 (1615 + 72 * t) + 1) (by unfold jC; omega)
        exact b.tr (turnLoop_J hcl hsh h9 k _ _ _ b.2.2.2 b.2.2.1 r)
theorem turn_J (hcl : ∀ (m : Nat → Int) (t : Nat) (m' : Nat → Int), JI m → (t : Int) < m 1 → cl m t m' → KP m m') (hsh : ∀ m a m', JI m → NC m → sh m a m' → KS m m') {t : Nat} (h : JI m) (nc : NC m) (r : turnR pool cl sh m t m') : KT m m' := by
  obtain ⟨h9, -, -, r⟩ := r
  have a : KT m (turnM m t) := by
    unfold turnM
    exact (((KT.rf h nc).upd (by unfold jC; omega)).upd (by unfold jC; omega)).upd (by unfold jC; omega)
  rcases r with ⟨-, r⟩ | ⟨-, p, E, k, -, -, -, -, r⟩
  · exact a.tr (isOver_J hsh a.2.2.2 a.2.2.1 r)
  · exact a.tr (turnLoop_J hcl hsh h9 k _ _ _ a.2.2.2 a.2.2.1 r)
theorem tick_J (h : JI m) (nc : NC m) (r : tickR pool m m') : KT m m' := by
  obtain ⟨-, -, r⟩ := r
  rcases r with ⟨-, rfl⟩ | ⟨-, r⟩
  · exact KT.rf h nc
  · exact turn_J (closes_J 91) (fun m a m' x y z => (shuts_J 61 m a m' x y z).1) h nc r
theorem ticks_J : ∀ (n : Nat) (m : Nat → Int) (k : Nat) (m' : Nat → Int), JI m → NC m → ticksR pool n m k m' → KT m m'
  | 0, m, k, m', h, nc, r => by
    obtain ⟨-, rfl⟩ := r
    exact KT.rf h nc
  | n + 1, m, k, m', h, nc, r => by
    obtain ⟨m1, r1, r⟩ := r
    have a := tick_J h nc r1
    rcases r with ⟨-, -, rfl⟩ | ⟨-, k1, -, r⟩
    · exact a
    · exact a.tr (ticks_J n m1 k1 m' a.2.2.2 a.2.2.1 r)
end M1

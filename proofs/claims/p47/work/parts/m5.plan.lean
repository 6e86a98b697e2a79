/-! ===== the plan of a scope: each that is held in it, once ===== -/
section M5
variable {m : Nat → Int} {N C : Nat}
/-- cnt of what is one of two kinds -/
theorem cnt_sum {p1 p2 p : Nat → Bool} : ∀ n : Nat, (∀ t, t < n → p t = (p1 t || p2 t)) → (∀ t, t < n → p1 t = true → p2 t = true → False) → cnt p n = cnt p1 n + cnt p2 n
  | 0, _, _ => rfl
  | n + 1, h1, h2 => by
    rw [cnt_S, cnt_S, cnt_S, cnt_sum n (fun t ht => h1 t (by omega)) (fun t ht => h2 t (by omega)), h1 n (by omega)]
    cases a : p1 n <;> cases b : p2 n
    · simp
    · simp; omega
    · simp; omega
    · exact (h2 n (by omega) a b).elim
/-- the rows that the plan stands on -/
def PLH (m : Nat → Int) (N C : Nat) : Prop := parI m C ∧ (∀ t : Nat, t < N → 0 ≤ m (259 + 14 * t) ∧ m (259 + 14 * t) < C) ∧ (∀ s e e' : Nat, entryP m N C s e → entryP m N C s e' → stampV m e = stampV m e' → e = e') ∧ (∀ s e : Nat, entryP m N C s e → stampV m e ≤ m 6) ∧ (∀ t : Nat, t < N → m (258 + 14 * t) = 0 → ¬ m (18 + 4 * (m (259 + 14 * t)).toNat) = 2) ∧ (∀ c : Nat, c < C → 1 ≤ c → 0 ≤ m (19 + 4 * c) ∧ (¬ m (18 + 4 * c) = 2 → ¬ m (18 + 4 * (m (19 + 4 * c)).toNat) = 2)) ∧ m 19 < 0 ∧ N ≤ 90 ∧ C ≤ 60
theorem ea_spec {s : Nat} {st : Int} (hN : N ≤ 90) (hC : C ≤ 60) : (eaV m N C s st < 0 ∧ ∀ e, entryP m N C s e → ¬ stampV m e < st) ∨ ∃ u : Nat, eaV m N C s st = u ∧ u < 160 ∧ entryP m N C s u ∧ stampV m u < st ∧ ∀ e, entryP m N C s e → stampV m e < st → stampV m e ≤ stampV m u := by
  have hr : ∀ e, entryP m N C s e → e < 160 := fun e h => by rcases entP_c h with h | h <;> omega
  obtain ⟨a1, a2, -, a4⟩ := ea_max (m := m) (N := N) (C := C) (a := (s : Int)) (st := st) 160 0 (-5) (by omega) (Or.inl (by decide))
  unfold eaV
  generalize eaL m N C s st 160 0 (-5) = r at *
  by_cases c : 0 ≤ r
  · obtain ⟨b1, b2⟩ := a2 c
    obtain ⟨u, rfl⟩ : ∃ u : Nat, r = u := ⟨r.toNat, by omega⟩
    rw [show ((u : Int)).toNat = u by omega] at b1 b2 a4
    exact Or.inr ⟨u, rfl, hr _ b1, b1, b2, fun e h1 h2 => (a4 e (Nat.zero_le _) (by have := hr e h1; omega) h1 h2).2⟩
  · exact Or.inl ⟨by omega, fun e h1 h2 => c (a4 e (Nat.zero_le _) (by have := hr e h1; omega) h1 h2).1⟩
/-- up a chain nothing is shut -/
theorem chain_open (h : PLH m N C) : ∀ (i a c : Nat), a < C → ¬ m (18 + 4 * a) = 2 → itP m i a = some c → c < C ∧ ¬ m (18 + 4 * c) = 2
  | 0, a, c, ha, h2, e => by
    have : a = c := by simpa [itP] using e
    subst this; exact ⟨ha, h2⟩
  | i + 1, a, c, ha, h2, e => by
    rw [itP_S] at e
    split at e
    · rename_i g
      have a1 : 1 ≤ a := by
        by_cases z : a = 0
        · subst z; have := h.2.2.2.2.2.2.1; rw [show 19 + 4 * 0 = 19 from rfl] at g; omega
        · omega
      have p := h.1 a ha
      exact chain_open h i _ c (by omega) ((h.2.2.2.2.2.1 a ha a1).2 h2) e
    · cases e
/-- held in a scope or below it: by one of its entries -/
theorem via_all (h : PLH m N C) {c t : Nat} (ht : t < N) : via m N C c (m 6 + 1) t ↔ (m (258 + 14 * t) = 0 ∧ inE m t (100 + c)) := by
  obtain ⟨hp, ho, hsi, h6, hop, hpa, h19, hN, hC⟩ := id h
  have own := ho t ht
  constructor
  · rintro ⟨z1, e, z2, z3, z4, z5⟩
    refine ⟨z1, Or.inr ⟨by omega, own.1, ?_⟩⟩
    rw [show 100 + c - 100 = c by omega]
    rcases entP_c z3 with ⟨a1, a2, a3, a4⟩ | ⟨a1, a2, a3⟩
    · rcases z5 with ⟨_, k⟩ | ⟨k, _⟩
      · subst k
        exact ⟨0, by rw [a4]; rfl⟩
      · omega
    · rcases z5 with ⟨k, _⟩ | ⟨_, k0, i, ki⟩
      · omega
      · refine ⟨i + 1, ?_⟩
        rw [itP_add i 1 _ _ ki]
        unfold itP
        rw [if_pos (by omega), a3]
        rfl
  · rintro ⟨z1, z2⟩
    refine ⟨z1, ?_⟩
    rcases z2 with ⟨z2, -⟩ | ⟨-, -, i, z2⟩
    · omega
    · rw [show 100 + c - 100 = c by omega] at z2
      have oo := hop t ht z1
      obtain ⟨a, ha⟩ : ∃ a : Nat, m (259 + 14 * t) = a := ⟨(m (259 + 14 * t)).toNat, by omega⟩
      rw [ha, show ((a : Int)).toNat = a by omega] at z2 oo
      cases i with
      | zero =>
        have : a = c := by simpa [itP] using z2
        subst this
        have en : entryP m N C a t := by rw [entryP_t (by omega)]; exact ⟨ht, z1, ha⟩
        exact ⟨t, by omega, en, by have := h6 a t en; omega, Or.inl ⟨by omega, rfl⟩⟩
      | succ i =>
        -- the one ahead of c in the chain
        have key : ∀ (i a : Nat), a < C → ¬ m (18 + 4 * a) = 2 → itP m (i + 1) a = some c → ∃ d : Nat, itP m i a = some d ∧ d < C ∧ ¬ m (18 + 4 * d) = 2 ∧ 1 ≤ d ∧ m (19 + 4 * d) = c := by
          intro i
          induction i with
          | zero =>
            intro a ha h2 e
            rw [itP_S] at e
            split at e
            · rename_i g
              have e2 : (m (19 + 4 * a)).toNat = c := by simpa [itP] using e
              refine ⟨a, rfl, ha, h2, ?_, by omega⟩
              by_cases z : a = 0
              · subst z; rw [show 19 + 4 * 0 = 19 from rfl] at g; omega
              · omega
            · cases e
          | succ i ih =>
            intro a ha h2 e
            rw [itP_S] at e
            split at e
            · rename_i g
              have a1 : 1 ≤ a := by
                by_cases z : a = 0
                · subst z; rw [show 19 + 4 * 0 = 19 from rfl] at g; omega
                · omega
              have p := hp a ha
              obtain ⟨d, d1, d2⟩ := ih _ (by omega) ((hpa a ha a1).2 h2) e
              exact ⟨d, by rw [itP_S, if_pos g]; exact d1, d2⟩
            · cases e
        obtain ⟨d, d1, d2, d3, d4, d5⟩ := key i a (by omega) oo z2
        have en : entryP m N C c (100 + d) := by
          rw [entryP_s (by omega), show 100 + d - 100 = d by omega]
          exact ⟨by omega, by omega, d3, d5⟩
        exact ⟨100 + d, by omega, en, by have := h6 c _ en; omega, Or.inr ⟨by omega, own.1, i, by rw [ha, show ((a : Int)).toNat = a by omega, show 100 + d - 100 = d by omega]; exact d1⟩⟩
theorem viaN_all (h : PLH m N C) {c : Nat} : viaN m N C c (m 6 + 1) = inN m N (100 + c) := cnt_congr N (fun t ht => by
  show bP _ = bP _
  have z := via_all h (c := c) ht
  cases e : bP (via m N C c (m 6 + 1) t) with
  | true => rw [bP_t] at e; exact (bP_t.mpr (z.mp e)).symm
  | false =>
    cases e2 : bP (m (258 + 14 * t) = 0 ∧ inE m t (100 + c)) with
    | false => rfl
    | true =>
      rw [bP_t] at e2
      rw [bP_t.mpr (z.mpr e2)] at e
      cases e)
/-- what the plan has written of: so many more, each held there -/
def PLO (m : Nat → Int) (N : Nat) (Q : Nat → Prop) (n : Int) (p : Nat → Int) (k : Nat) (p' : Nat → Int) (k' : Nat) : Prop := (k' : Int) = k + n ∧ (∀ q, q < k → p' q = p q) ∧ ∀ q, k ≤ q → q < k' → ∃ t : Nat, p' q = t ∧ t < N ∧ m (258 + 14 * t) = 0 ∧ Q t
theorem via_two (h : PLH m N C) {s u : Nat} {st : Int} (hu : entryP m N C s u) (hst : stampV m u < st) (hmx : ∀ e, entryP m N C s e → stampV m e < st → stampV m e ≤ stampV m u) : viaN m N C s st = viaN m N C s (stampV m u) + inN m N u := by
  obtain ⟨hp, ho, hsi, h6, hop, hpa, h19, hN, hC⟩ := id h
  refine cnt_sum N (fun t ht => ?_) (fun t ht z w => ?_)
  · show bP _ = (bP _ || bP _)
    have z : via m N C s st t ↔ (via m N C s (stampV m u) t ∨ (m (258 + 14 * t) = 0 ∧ inE m t u)) := by
      constructor
      · rintro ⟨z1, e, z2, z3, z4, z5⟩
        have le := hmx e z3 z4
        by_cases c : stampV m e = stampV m u
        · have := hsi s e u z3 hu c
          subst this
          exact Or.inr ⟨z1, z5⟩
        · exact Or.inl ⟨z1, e, z2, z3, by omega, z5⟩
      · rintro (⟨z1, e, z2, z3, z4, z5⟩ | ⟨z1, z2⟩)
        · exact ⟨z1, e, z2, z3, by omega, z5⟩
        · exact ⟨z1, u, by rcases entP_c hu with q | q <;> omega, hu, hst, z2⟩
    cases e1 : bP (via m N C s (stampV m u) t) with
    | true => rw [bP_t] at e1; rw [bP_t.mpr (z.mpr (Or.inl e1))]; rfl
    | false =>
      cases e2 : bP (m (258 + 14 * t) = 0 ∧ inE m t u) with
      | true => rw [bP_t] at e2; rw [bP_t.mpr (z.mpr (Or.inr e2))]; rfl
      | false =>
        cases e3 : bP (via m N C s st t) with
        | false => rfl
        | true =>
          rw [bP_t] at e3
          rcases z.mp e3 with q | q
          · rw [bP_t.mpr q] at e1; cases e1
          · rw [bP_t.mpr q] at e2; cases e2
  · have z' := bP_t.mp z
    have w' := bP_t.mp w
    obtain ⟨z1, e, z2, z3, z4, z5⟩ := z'
    have := inE_one hp (fun t ht => (ho t ht).2) ht z3 hu z5 w'.2
    subst this
    omega
theorem in_one {u : Nat} (hu : u < N) (h9 : u < 100) (h0 : m (258 + 14 * u) = 0) : inN m N u = 1 := by
  have := cnt_upd (p := fun _ => false) (p' := fun t => bP (m (258 + 14 * t) = 0 ∧ inE m t u)) (t := u) (M := N) rfl (bP_t.mpr ⟨h0, Or.inl ⟨h9, rfl⟩⟩) (fun q hq hne => by
    show false = bP _
    cases e : bP (m (258 + 14 * q) = 0 ∧ inE m q u) with
    | false => rfl
    | true =>
      rw [bP_t] at e
      rcases e.2 with ⟨-, z⟩ | ⟨z, -⟩
      · exact absurd z hne
      · omega) N (Nat.le_refl _)
  rw [if_pos hu, cnt_zero N (fun _ _ => rfl)] at this
  unfold inN
  omega
theorem plan_all (h : PLH m (m 1).toNat (m 0).toNat) : ∀ (n s : Nat) (p : Nat → Int) (k : Nat) (p' : Nat → Int) (k' : Nat), plR m n s p k p' k' → PLO m (m 1).toNat (fun t => inE m t (100 + s)) (inN m (m 1).toNat (100 + s)) p k p' k'
  | 0, _, _, _, _, _, r => r.elim
  | n + 1, s, p, k, p', k', r => by
    obtain ⟨j, r⟩ := r
    have loop : ∀ (j : Nat) (st : Int) (p : Nat → Int) (k : Nat) (p' : Nat → Int) (k' : Nat), plLR (plR m n) m s j (eaI m s st) p k p' k' → PLO m (m 1).toNat (via m (m 1).toNat (m 0).toNat s st) (viaN m (m 1).toNat (m 0).toNat s st) p k p' k' := by
      intro j
      induction j with
      | zero =>
        intro st p k p' k' r
        obtain ⟨e, rfl, rfl⟩ := r
        rcases ea_spec (m := m) (s := s) (st := st) h.2.2.2.2.2.2.2.1 h.2.2.2.2.2.2.2.2 with ⟨-, z⟩ | ⟨u, z, -⟩
        · refine ⟨?_, fun _ _ => rfl, fun q h1 h2 => by omega⟩
          unfold viaN
          rw [cnt_zero _ (fun t ht => ?_)]
          · omega
          · cases e : bP (via m (m 1).toNat (m 0).toNat s st t) with
            | false => rfl
            | true =>
              rw [bP_t] at e
              obtain ⟨-, e, -, z3, z4, -⟩ := e
              exact absurd z4 (z e z3)
        · unfold eaI at e
          omega
      | succ j ih =>
        intro st p k p' k' r
        rcases ea_spec (m := m) (s := s) (st := st) h.2.2.2.2.2.2.2.1 h.2.2.2.2.2.2.2.2 with ⟨z0, z⟩ | ⟨u, z, z1, z2, z3, z4⟩
        · rcases r with ⟨-, rfl, rfl⟩ | ⟨q, -⟩ | ⟨q, -⟩
          · refine ⟨?_, fun _ _ => rfl, fun q h1 h2 => by omega⟩
            unfold viaN
            rw [cnt_zero _ (fun t ht => ?_)]
            · omega
            · cases e : bP (via m (m 1).toNat (m 0).toNat s st t) with
              | false => rfl
              | true =>
                rw [bP_t] at e
                obtain ⟨-, e, -, z3, z4, -⟩ := e
                exact absurd z4 (z e z3)
          · unfold eaI at q; omega
          · unfold eaI at q; omega
        · have two := via_two h z2 z3 z4
          have eu : eaI m s st = u := z
          rw [eu] at r
          rcases r with ⟨q, -⟩ | ⟨⟨-, q⟩, hk, r⟩ | ⟨q, p1, k1, r1, r⟩
          · omega
          · rcases entP_c z2 with ⟨a1, a2, a3, a4⟩ | ⟨a1, -⟩
            · have one := in_one a2 a1 a3
              rw [stampI_V] at r
              obtain ⟨c1, c2, c3⟩ := ih _ _ _ _ _ r
              refine ⟨by omega, fun q hq => (c2 q (by omega)).trans (updI_n (by omega)), fun q h1 h2 => ?_⟩
              by_cases e : q = k
              · subst e
                exact ⟨u, (c2 q (by omega)).trans updI_s, a2, a3, a3, u, z1, z2, z3, Or.inl ⟨a1, rfl⟩⟩
              · obtain ⟨t, t1, t2, t3, t4⟩ := c3 q (by omega) h2
                obtain ⟨g1, e, g2, g3, g4, g5⟩ := t4
                exact ⟨t, t1, t2, t3, g1, e, g2, g3, by omega, g5⟩
            · omega
          · rcases entP_c z2 with ⟨a1, -⟩ | ⟨a1, a2, a3⟩
            · omega
            · obtain ⟨c, rfl⟩ : ∃ c : Nat, u = 100 + c := ⟨u - 100, by omega⟩
              rw [show (((100 + c : Nat) : Int)) - 100 = (c : Int) by omega] at r1
              rw [stampI_V] at r
              obtain ⟨b1, b2, b3⟩ := plan_all h n c _ _ _ _ r1
              obtain ⟨c1, c2, c3⟩ := ih _ _ _ _ _ r
              have i0 : 0 ≤ inN m (m 1).toNat (100 + c) := (cnt_r _ _).1
              refine ⟨by omega, fun q hq => (c2 q (by omega)).trans (b2 q hq), fun q h1 h2 => ?_⟩
              by_cases e : q < k1
              · obtain ⟨t, t1, t2, t3, t4⟩ := b3 q h1 e
                exact ⟨t, (c2 q e).trans t1, t2, t3, t3, 100 + c, z1, z2, z3, t4⟩
              · obtain ⟨t, t1, t2, t3, t4⟩ := c3 q (by omega) h2
                obtain ⟨g1, e, g2, g3, g4, g5⟩ := t4
                exact ⟨t, t1, t2, t3, g1, e, g2, g3, by omega, g5⟩
    obtain ⟨c1, c2, c3⟩ := loop j (m 6 + 1) p k p' k' r
    rw [viaN_all h] at c1
    refine ⟨c1, c2, fun q h1 h2 => ?_⟩
    obtain ⟨t, t1, t2, t3, t4⟩ := c3 q h1 h2
    exact ⟨t, t1, t2, t3, ((via_all h t2).mp t4).2⟩
/-- to be in a scope or below it: the two ways of saying it -/
theorem up_it (h19 : m 19 < 0) (hp : parI m C) (hpa : ∀ c : Nat, c < C → 1 ≤ c → 0 ≤ m (19 + 4 * c)) {c : Nat} : ∀ (n a : Nat), a ≤ n → a < C → (upK m c n a = c ↔ ∃ i, itP m i a = some c)
  | 0, a, h1, h2 => by
    obtain rfl : a = 0 := by omega
    constructor
    · intro e
      have e2 : ((0 : Nat) : Int) = c := e
      exact ⟨0, by show some 0 = some c; congr 1; omega⟩
    · rintro ⟨i, e⟩
      cases i with
      | zero =>
        have : 0 = c := by simpa [itP] using e
        subst this; rfl
      | succ i =>
        rw [itP_S, if_neg (by rw [show 19 + 4 * 0 = 19 from rfl]; omega)] at e
        cases e
  | n + 1, a, h1, h2 => by
    unfold upK
    by_cases z : a = c
    · subst z
      rw [if_neg (fun q => q.2 rfl)]
      exact ⟨fun _ => ⟨0, rfl⟩, fun _ => rfl⟩
    · rw [if_pos ⟨by omega, by omega⟩, show ((19 : Int) + 4 * (a : Int)).toNat = 19 + 4 * a by omega]
      by_cases a0 : a = 0
      · subst a0
        rw [show 19 + 4 * 0 = 19 from rfl]
        have e2 : upK m c n (m 19) = m 19 := by
          cases n with
          | zero => rfl
          | succ n => unfold upK; rw [if_neg (by omega)]
        rw [e2]
        constructor
        · intro e; omega
        · rintro ⟨i, e⟩
          cases i with
          | zero =>
            have : 0 = c := by simpa [itP] using e
            omega
          | succ i =>
            rw [itP_S, if_neg (by rw [show 19 + 4 * 0 = 19 from rfl]; omega)] at e
            cases e
      · have p0 := hpa a h2 (by omega)
        have p1 := hp a h2
        obtain ⟨b, hb⟩ : ∃ b : Nat, m (19 + 4 * a) = b := ⟨(m (19 + 4 * a)).toNat, by omega⟩
        rw [hb, up_it h19 hp hpa n b (by omega) (by omega)]
        constructor
        · rintro ⟨i, e⟩
          exact ⟨i + 1, by rw [itP_S, if_pos p0, hb]; exact e⟩
        · rintro ⟨i, e⟩
          cases i with
          | zero =>
            have : a = c := by simpa [itP] using e
            omega
          | succ i =>
            rw [itP_S, if_pos p0, hb] at e
            exact ⟨i, e⟩
theorem in_held (h : PLH m N C) {c t : Nat} (ht : t < N) : heldInB m C c t = true ↔ (m (258 + 14 * t) = 0 ∧ inE m t (100 + c)) := by
  obtain ⟨hp, ho, hsi, h6, hop, hpa, h19, hN, hC⟩ := id h
  have own := ho t ht
  obtain ⟨a, ha⟩ : ∃ a : Nat, m (259 + 14 * t) = a := ⟨(m (259 + 14 * t)).toNat, by omega⟩
  unfold heldInB belowB heldB
  rw [Bool.and_eq_true, decide_eq_true_iff, decide_eq_true_iff, ha, up_it h19 hp (fun c h1 h2 => (hpa c h1 h2).1) C a (by omega) (by omega)]
  constructor
  · rintro ⟨z, i, e⟩
    exact ⟨z, Or.inr ⟨by omega, by omega, i, by rw [ha, show 100 + c - 100 = c by omega]; exact e⟩⟩
  · rintro ⟨z, z2⟩
    rcases z2 with ⟨z2, -⟩ | ⟨-, -, i, e⟩
    · omega
    · exact ⟨z, i, by rw [ha, show 100 + c - 100 = c by omega] at e; exact e⟩
theorem inN_held (h : PLH m N C) {c : Nat} : inN m N (100 + c) = cnt (heldInB m C c) N := cnt_congr N (fun t ht => by
  have z := in_held h (c := c) ht
  cases e : heldInB m C c t with
  | true => exact bP_t.mpr (z.mp e)
  | false =>
    cases e2 : bP (m (258 + 14 * t) = 0 ∧ inE m t (100 + c)) with
    | false => rfl
    | true =>
      rw [bP_t] at e2
      rw [z.mpr e2] at e
      cases e)
/-- in a shut scope nothing is held -/
theorem in_shut (h : PLH m N C) {c : Nat} (h2 : m (18 + 4 * c) = 2) : cnt (heldInB m C c) N = 0 := cnt_zero N (fun t ht => by
  cases e : heldInB m C c t with
  | false => rfl
  | true =>
    obtain ⟨z1, z2⟩ := (in_held h ht).mp e
    have own := h.2.1 t ht
    rcases z2 with ⟨z2, -⟩ | ⟨-, -, i, z2⟩
    · omega
    · have := (chain_open h i _ _ (by omega) (h.2.2.2.2.1 t ht z1) z2).2
      rw [show 100 + c - 100 = c by omega] at this
      exact absurd h2 this)
end M5

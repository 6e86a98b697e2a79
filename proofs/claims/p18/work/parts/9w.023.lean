section mg_a0
/-- the class's last entry is the reference's -/
theorem last_eq {x : Int} {m pool c : Nat → Int} {S : Nat → Option mO} {C : Nat → Nat → Int} {nm : Nat → Int64} {g : Nat → Option Nat} (h : CRx x m pool S c C nm g) (hok : mOk m) (h0 : 1 ≤ m 0) (hst : ∀ t : Nat, (t : Int) < m 1 → 0 ≤ m (258 + 14 * t) ∧ m (258 + 14 * t) ≤ 2) (hss : ∀ a : Nat, (a : Int) < m 0 → 0 ≤ m (18 + 4 * a) ∧ m (18 + 4 * a) ≤ 2) (hsp : ∀ e, nodP m e → 0 ≤ stampI m e) {s : Int} {Z : Nat} (hZ : c 10 = (Z : Int)) : ltL c (C 2) s Z = if lastI m s < 0 then -1 else lastI m s := by
  obtain ⟨n, T, A, K, L, ⟨Z', e⟩, -, G, R⟩ := h
  have k0 := hok.2.1
  have k1 := hok.2.2.1
  have hZ' : Z' = Z := by have := e.1; omega
  subst hZ'
  have cn : ∀ e, canP m s e → nodP m e := fun e he => by
    rcases he with ⟨t, a, b, d, -⟩ | ⟨a, p, q, b, d, -⟩
    · exact Or.inl ⟨t, a, b, by rw [d]; decide⟩
    · exact Or.inr ⟨a, p, q, b, by rw [d]; decide⟩
  have cs : ∀ e', nodP m e' → ((stP c e' ∧ ownF c e' = s) ↔ canP m s e') := fun e' he => by
    rcases he with ⟨t, rfl, b, d⟩ | ⟨a, rfl, q, b, d⟩
    · obtain ⟨t1, t2, -⟩ := T t b
      have o1 : ownF c (t : Int) = m (259 + 14 * t) := by rw [ownF_t (by rw [n.1]; exact b) (by omega), t2]
      have o2 : stP c (t : Int) ↔ m (258 + 14 * t) = 0 := by
        unfold stP inW
        rw [Int.toNat_natCast, t1, swT_0 (hst t b)]
        constructor
        · rintro (w | w)
          · omega
          · exact w.2.2
        · intro w
          exact Or.inr ⟨by omega, ⟨by omega, by rw [n.1]; exact b, by omega⟩, w⟩
      rw [o1, o2]
      constructor
      · rintro ⟨w1, w2⟩; exact Or.inl ⟨t, rfl, b, w1, w2⟩
      · rintro (⟨u, w1, w2, w3, w4⟩ | ⟨u, w1, w2, w3, w4, w5⟩)
        · have : u = t := by omega
          subst this; exact ⟨w3, w4⟩
        · exfalso; omega
    · obtain ⟨t1, t2, -⟩ := A a b
      have o1 : ownF c (100 + (a : Int)) = m (19 + 4 * a) := by rw [ownF_s (by rw [n.2.1]; exact b) (by omega), t2]
      have o2 : stP c (100 + (a : Int)) ↔ m (18 + 4 * a) = 0 := by
        unfold stP inW
        rw [show (100 + (a : Int) - 100) = (a : Int) by omega, Int.toNat_natCast, t1, swT_0 (hss a b)]
        constructor
        · rintro (w | w)
          · exact w.2.2
          · omega
        · intro w
          exact Or.inl ⟨by omega, ⟨by omega, by rw [n.2.1]; exact b, by omega⟩, w⟩
      rw [o1, o2]
      constructor
      · rintro ⟨w1, w2⟩; exact Or.inr ⟨a, rfl, q, b, w1, w2⟩
      · rintro (⟨u, w1, w2, w3, w4⟩ | ⟨u, w1, w2, w3, w4, w5⟩)
        · exfalso; omega
        · have : u = a := by omega
          subst this; exact ⟨w4, w5⟩
  obtain ⟨e1, e2, e3, e4, e5, e6⟩ := e
  rcases lastI_m (s := s) h0 k1 (fun e he => hsp e (cn e he)) with ⟨l1, l2⟩ | ⟨l1, l2, l3⟩
  · rw [if_pos l1]
    rcases ltL_m (c := c) (f := C 2) (i := s) Z' with ⟨a, -⟩ | ⟨j, a, b, d, -⟩
    · exact a
    · exact absurd ((cs _ (e3 j a)).mp d) (l2 _)
  · rw [if_neg (by omega)]
    obtain ⟨j0, j1, j2⟩ := e5 _ (cn _ l2)
    rcases ltL_m (c := c) (f := C 2) (i := s) Z' with ⟨a, b⟩ | ⟨j, a, b, d, w⟩
    · exfalso
      refine b j0 j1 ?_
      rw [j2]
      exact (cs _ (cn _ l2)).mpr l2
    · rw [b]
      have p1 : j0 ≤ j := by
        by_cases q : j0 ≤ j
        · exact q
        · exfalso
          refine w j0 (by omega) j1 ?_
          rw [j2]
          exact (cs _ (cn _ l2)).mpr l2
      by_cases q : j0 = j
      · subst q; exact j2
      · exfalso
        have x1 := e4 j0 j (by omega) a
        have x2 := l3 _ ((cs _ (e3 j a)).mp d)
        rw [j2] at x1
        omega
end mg_a0

section mg_77
theorem inv_close {m pool : Nat → Int} {B sink f : Int} (h : Inv m pool B) {t : Nat} (ht : (t : Int) < m 1) (h1 : m (258 + 14 * t) = 1) (hs : InR sink) (hf : InR f) :
    Inv (closedM (if f = 0 then m else gathersM m sink f t) t) pool (B - 121) ∧ closedM (if f = 0 then m else gathersM m sink f t) t 2 = m 2 + 1 ∧ closedM (if f = 0 then m else gathersM m sink f t) t (258 + 14 * t) = 2 ∧
    ∀ q, ¬ q = 2 → ¬ q = 4 → ¬ q = 5 → ¬ q = 258 + 14 * t → ¬ q = 264 + 14 * t → (q < 1518 ∨ (1608 ≤ q ∧ q < 2328)) → closedM (if f = 0 then m else gathersM m sink f t) t q = m q := by
  obtain ⟨l1, l2, l3, l4⟩ := h.lt ht (by rw [h1]; decide)
  have hg : ∃ m2, m2 = (if f = 0 then m else gathersM m sink f t) ∧ (∀ q, InR (m2 q)) ∧ (∀ q, ¬ q = 4 → ¬ q = 5 → (q < 2328 ∨ 2928 ≤ q) → m2 q = m q) ∧ (m2 4 = m 4 ∨ m2 4 = m 4 + 1) ∧ (m2 5 = m 5 ∨ m2 5 = m 5 + 1) := by
    have k1 := h.1.2.2.1
    by_cases c : f = 0
    · exact ⟨m, by rw [if_pos c], h.1.1, fun _ _ _ _ => rfl, Or.inl rfl, Or.inl rfl⟩
    · obtain ⟨a, b, cc, d⟩ := inv_gath (sink := sink) (f := f) h (t := t) (by omega) hs hf l3 l4
      exact ⟨gathersM m sink f t, by rw [if_neg c], a, b, cc, d⟩
  obtain ⟨m2, e2, hM2, n2, n4, n5⟩ := hg
  rw [← e2]
  obtain ⟨⟨hM, k0, k1, k2, k3, k4, k5, k7⟩, g2, g3, g4, g5, g6⟩ := h
  have q2 : m2 2 = m 2 := n2 2 (by omega) (by omega) (by omega)
  have t9 : t ≤ 89 := by omega
  obtain ⟨c1, c2, c3⟩ := closedM_at (m := m2) (t := t) (by omega) t9
  have e : ∀ q, ¬ q = 2 → ¬ q = 4 → ¬ q = 5 → ¬ q = 258 + 14 * t → ¬ q = 264 + 14 * t → (q < 1518 ∨ (1608 ≤ q ∧ q < 2328)) → closedM m2 t q = m q := fun q a b c d x y => (c3 q a d x (by omega)).trans (n2 q b c (by omega))
  have z4 : closedM m2 t 4 = m2 4 := c3 4 (by omega) (by omega) (by omega) (by omega)
  have z5 : closedM m2 t 5 = m2 5 := c3 5 (by omega) (by omega) (by omega) (by omega)
  have cc := cnt_upd (p := clsB m) (p' := clsB (closedM m2 t)) (t := t) (decide_eq_false (by rw [h1]; decide)) (decide_eq_true c2) (M := 90) (fun q hq hq2 => by unfold clsB; rw [e _ (by omega) (by omega) (by omega) (by omega) (by omega) (by omega)]) (m 1).toNat (by omega)
  refine ⟨⟨⟨closedM_in hM2 (by omega) t9, ?_⟩, ?_⟩, by rw [c1, q2], c2, e⟩
  · rw [e 0 (by omega) (by omega) (by omega) (by omega) (by omega) (by omega), e 1 (by omega) (by omega) (by omega) (by omega) (by omega) (by omega), c1, e 3 (by omega) (by omega) (by omega) (by omega) (by omega) (by omega), z4, z5]
    exact ⟨k0, k1, ⟨by omega, by omega⟩, k3, ⟨by omega, by omega⟩, ⟨by omega, by omega⟩, fun u hu => by rw [e _ (by omega) (by omega) (by omega) (by omega) (by omega) (by omega)]; exact k7 u hu⟩
  · rw [e 0 (by omega) (by omega) (by omega) (by omega) (by omega) (by omega), e 1 (by omega) (by omega) (by omega) (by omega) (by omega) (by omega), c1, z4, z5, e 6 (by omega) (by omega) (by omega) (by omega) (by omega) (by omega), e 8 (by omega) (by omega) (by omega) (by omega) (by omega) (by omega), cc, if_pos (by omega)]
    refine ⟨g2, fun u hu => ?_, ⟨by omega, by omega, by omega⟩, ⟨by omega, by omega⟩, fun u j hu hj => by rw [e _ (by omega) (by omega) (by omega) (by omega) (by omega) (by omega)]; exact g6 u j hu hj⟩
    have z := g3 u hu
    unfold thOk at z ⊢
    rw [e (259 + 14 * u) (by omega) (by omega) (by omega) (by omega) (by omega) (by omega), e (260 + 14 * u) (by omega) (by omega) (by omega) (by omega) (by omega) (by omega), e 6 (by omega) (by omega) (by omega) (by omega) (by omega) (by omega), e (261 + 14 * u) (by omega) (by omega) (by omega) (by omega) (by omega) (by omega), e (262 + 14 * u) (by omega) (by omega) (by omega) (by omega) (by omega) (by omega), e (263 + 14 * u) (by omega) (by omega) (by omega) (by omega) (by omega) (by omega), e 0 (by omega) (by omega) (by omega) (by omega) (by omega) (by omega), e 8 (by omega) (by omega) (by omega) (by omega) (by omega) (by omega)]
    refine ⟨?_, z.2⟩
    by_cases q : u = t
    · subst q; rw [c2]; exact ⟨by decide, by decide⟩
    · rw [e _ (by omega) (by omega) (by omega) (by omega) (by omega) (by omega)]; exact z.1
end mg_77

section mg_c5
section CW
variable {m pool c c' : Nat → Int} {S : Nat → Option mO} {C C' : Nat → Nat → Int} {nm nm' : Nat → Int64} {g g' : Nat → Option Nat}
/-- all that is looked at -/
theorem ctr_c (h : CTR m pool S c C nm g) (hok : mOk m) (hc : ∀ q : Nat, (q ≤ 4 ∨ (8 ≤ q ∧ q ≤ 13) ∨ (32 ≤ q ∧ (q : Int) < 32 + 3 * m 1) ∨ (304 ≤ q ∧ (q : Int) < 304 + 3 * m 0) ∨ (488 ≤ q ∧ (q : Int) < 488 + 9 * m 3)) → c' q = c q) (hr : (∀ q, InR (c' q)) ∧ ∀ k q, InR (C' k q)) (h0 : ∀ k : Nat, k < 8 → C' 0 k = C 0 k) (h1 : ∀ k : Nat, (k : Int) < c 9 → C' 1 k = C 1 k) (h2 : ∀ k : Nat, (k : Int) < c 10 → C' 2 k = C 2 k) (h35 : ∀ k : Nat, (k : Int) < c 11 → C' 3 k = C 3 k ∧ C' 4 k = C 4 k ∧ C' 5 k = C 5 k) (hn : ∀ t : Nat, (t : Int) < m 1 → nm' t = nm t) (hg : ∀ t : Nat, (t : Int) < m 1 → g' (2 * t) = g (2 * t)) (hgt : ∀ j : Nat, 180 ≤ j → (j : Int) < 180 + 2 * m 3 → g' j = g j) : CTR m pool S c' C' nm' g' := by
  obtain ⟨⟨n, T, A, K, L, ⟨Z, e⟩, ⟨F, f⟩, G, R⟩, h3, hK⟩ := h
  have k0 := hok.2.1
  have k1 := hok.2.2.1
  have k2 := hok.2.2.2.1
  have k3 := hok.2.2.2.2.1
  have ez := e.1
  have f11 := f.1.1
  have fb := f.2.1
  have s : ∀ q, q ≤ 4 ∨ (8 ≤ q ∧ q ≤ 13) → c' q = c q := fun q hq => hc q (by omega)
  have c4 : c' 4 = c 4 := s 4 (by omega)
  refine ⟨⟨?_, fun t ht => ?_, fun a ha => ?_, fun q hq => ?_, ?_, ⟨Z, ?_⟩, ⟨F, ?_⟩, fun t ht => ?_, hr⟩, by rw [s 3 (by omega)]; exact h3, fun q hq => ?_⟩
  · unfold crN
    rw [s 0 (by omega), s 1 (by omega), s 2 (by omega), s 8 (by omega), s 9 (by omega)]
    exact n
  · rw [hc _ (by omega), hc _ (by omega), hc _ (by omega), hn t ht]; exact T t ht
  · rw [hc _ (by omega), hc _ (by omega), hc _ (by omega)]; exact A a ha
  · rw [hc _ (by omega), hc _ (by omega)]; exact K q hq
  · exact ⟨fun k hk => by rw [h0 k hk]; exact L.1 k hk, fun k hk => by rw [h1 k (by rw [n.2.2.2.2]; exact hk)]; exact L.2 k hk⟩
  · obtain ⟨e1, e2, e3, e4, e5, e6⟩ := e
    refine ⟨by rw [s 10 (by omega)]; exact e1, e2, fun j hj => by rw [h2 j (by omega)]; exact e3 j hj, fun j k a b => by rw [h2 j (by omega), h2 k (by omega)]; exact e4 j k a b, fun x hx => ?_, e6⟩
    obtain ⟨j, j1, j2⟩ := e5 x hx
    exact ⟨j, j1, by rw [h2 j (by omega)]; exact j2⟩
  · obtain ⟨f1, f2, f3, f4, f5, f6, f7⟩ := f
    have fa : ∀ k, k ≤ F → cnt (faB (C' 5)) k = cnt (faB (C 5)) k := fun k hk => cnt_congr k (fun q hq => by unfold faB; rw [(h35 q (by omega)).2.2])
    have gb : ∀ k, k ≤ F → cnt (gbB (c 4).toNat (C' 5) (-1)) k = cnt (gbB (c 4).toNat (C 5) (-1)) k := fun k hk => cnt_congr k (fun q hq => by unfold gbB; rw [(h35 q (by omega)).2.2])
    unfold crF
    rw [s 11 (by omega), s 12 (by omega), s 13 (by omega), c4, fa F (Nat.le_refl _), gb F (Nat.le_refl _)]
    refine ⟨f1, f2, f3, f4, fun j a b => ?_, f6, fun j a b d => ?_⟩
    · obtain ⟨x1, x2, x3⟩ := h35 j (by omega)
      rw [x3] at b
      rw [fa j (by omega), x1, x2, x3]
      exact f5 j a b
    · obtain ⟨x1, x2, x3⟩ := h35 j (by omega)
      rw [x3] at d
      rw [gb j (by omega), x1, x2]
      exact f7 j a b d
  · rw [hg t ht]; exact G t ht
  · obtain ⟨⟨a1, a2, a3, a4, a5, a6, b, hi, n, P, E, e1, e2, e3, e4⟩, hC⟩ := hK q hq
    refine ⟨⟨by rw [hc _ (by omega)]; exact a1, by rw [hc _ (by omega)]; exact a2, by rw [hc _ (by omega)]; exact a3, by rw [hc _ (by omega)]; exact a4, by rw [hc _ (by omega)]; exact a5, by rw [hc _ (by omega)]; exact a6, b, hi, n, P, E, e1, e2, by rw [hgt _ (by omega) (by omega)]; exact e3, e4⟩, fun z z2 => ?_⟩
    obtain ⟨z0, o, p, E', r1, r2, r3, r4, r5⟩ := hC z z2
    exact ⟨z0, o, p, E', r1, r2, r3, by rw [hc _ (by omega)]; exact r4, by rw [hgt _ (by omega) (by omega)]; exact r5⟩
end CW
end mg_c5

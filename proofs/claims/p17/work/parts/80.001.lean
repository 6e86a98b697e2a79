theorem tkB.same {m m' pool : Nat → Int} {t : Nat} (h : tkB m pool t) (hs : sameTk m m' t) (h0 : m 0 ≤ m' 0) (h60 : m 0 ≤ 60) (h7 : m 7 ≤ m' 7) (h8 : m 8 ≤ m' 8) (hp : ∀ c : Nat, 1 ≤ c → (c : Int) < m 0 → m' (19 + 4 * c) = m (19 + 4 * c)) : tkB m' pool t := by
  obtain ⟨a1, a2, a3, a4, a5, a6, ⟨n, a7, a8⟩, a9, a10⟩ := h
  obtain ⟨s1, s2⟩ := hs
  unfold tkB
  rw [s1 (1609 + 72 * t) (by omega) (by omega) (by omega), s1 (1610 + 72 * t) (by omega) (by omega) (by omega), s1 (1612 + 72 * t) (by omega) (by omega) (by omega), s1 (1613 + 72 * t) (by omega) (by omega) (by omega), s1 (1615 + 72 * t) (by omega) (by omega) (by omega), s1 (1608 + 72 * t) (by omega) (by omega) (by omega), s1 (1620 + 72 * t) (by omega) (by omega) (by omega), s1 (1619 + 72 * t) (by omega) (by omega) (by omega), s1 (1611 + 72 * t) (by omega) (by omega) (by omega), s1 (1616 + 72 * t) (by omega) (by omega) (by omega), s1 (1617 + 72 * t) (by omega) (by omega) (by omega)]
  refine ⟨a1, a2, ?_, ⟨⟨a4.1.1, by omega⟩, ⟨a4.2.1, by omega⟩⟩, a5, a6, ⟨n, a7, ?_⟩, a9, a10.imp (fun P z => z.imp (fun E w => ⟨w.1, w.2.1, by omega, w.2.2.2⟩))⟩
  · rcases s2 with s2 | s2
    · rw [s2]; exact a3
    · exact Or.inr s2
  · obtain ⟨b1, b2, b3⟩ := a8
    refine ⟨b1, fun k hk => ?_, fun k hk => ?_⟩
    · rw [s1 _ (by omega) (by omega) (by omega)]
      have := b2 k hk; omega
    · have c1 := b2 (k + 1) hk
      rw [s1 (1620 + 72 * t + (k + 1)) (by omega) (by omega) (by omega), s1 (1620 + 72 * t + k) (by omega) (by omega) (by omega), hp _ (by omega) (by omega)]
      exact b3 k hk

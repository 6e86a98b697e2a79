section mg_77
theorem inv_take {m pool rc : Nat → Int} {B : Int} (h : Inv m pool B) {N fr to : Nat} {o : Int} {P E : Nat} (hN : m 1 = (N : Int)) (h9 : N < 90) (ho : 0 ≤ o ∧ o < m 0) (hn : 1 ≤ to - fr ∧ to - fr ≤ 7) (hft : fr ≤ to) (hr : ∀ q, InR (rc q)) (hl : ∀ j, fr ≤ j → j < to → isLt (rc j)) (hx : textT (m 8) pool P E) (hB : B ≤ 2000000000) : Inv (takesM m rc N o fr to P E) pool (B + 1) ∧ Ev m (takesM m rc N o fr to P E) := by
  obtain ⟨⟨hM, k0, k1, k2, k3, k4, k5, k7⟩, g2, g3, g4, g5, g6⟩ := h
  have e : ∀ q, ¬ q = 1 → ¬ q = 6 → (q < 258 + 14 * N ∨ 272 + 14 * N ≤ q) → takesM m rc N o fr to P E q = m q := fun q a b c => takesM_n hn.2 a b c
  have hx1 := hx.le g2.2.2
  have hx2 := hx.1
  have c : cnt (clsB (takesM m rc N o fr to P E)) (m 1).toNat = cnt (clsB m) (m 1).toNat := cnt_congr _ (fun q hq => by unfold clsB; rw [e _ (by omega) (by omega) (by omega)])
  refine ⟨⟨⟨takesM_in hM hr ⟨by omega, by omega⟩ (by omega) ⟨by omega, by omega⟩ ⟨by omega, by omega⟩ ⟨by omega, by omega⟩ hn.2 hft, ?_⟩, ?_⟩, ?_⟩
  · rw [e 0 (by omega) (by omega) (by omega), takesM_1, e 2 (by omega) (by omega) (by omega), e 3 (by omega) (by omega) (by omega), e 4 (by omega) (by omega) (by omega), e 5 (by omega) (by omega) (by omega)]
    refine ⟨k0, ⟨by omega, by omega⟩, k2, k3, k4, k5, fun u hu => ?_⟩
    by_cases q : u = N
    · subst q; rw [takesM_ln]; omega
    · rw [e _ (by omega) (by omega) (by omega)]; exact k7 u (by omega)
  · rw [e 0 (by omega) (by omega) (by omega), takesM_1, e 2 (by omega) (by omega) (by omega), e 4 (by omega) (by omega) (by omega), e 5 (by omega) (by omega) (by omega), takesM_6, e 8 (by omega) (by omega) (by omega), show ((N : Int) + 1).toNat = (m 1).toNat + 1 by omega]
    refine ⟨g2, fun u hu => ?_, ⟨?_, g4.2⟩, ⟨by omega, by omega⟩, fun u j hu hj => ?_⟩
    · by_cases q : u = N
      · subst q
        unfold thOk
        rw [takesM_st, takesM_ow, takesM_ln, takesM_sp, takesM_6, takesM_p, takesM_e, e 0 (by omega) (by omega) (by omega), e 8 (by omega) (by omega) (by omega)]
        exact ⟨⟨by omega, by omega⟩, ho, ⟨by omega, by omega, Int.le_refl _⟩, P, E, rfl, rfl, hx⟩
      · have z := g3 u (by omega)
        unfold thOk at z ⊢
        rw [e (258 + 14 * u) (by omega) (by omega) (by omega), e (259 + 14 * u) (by omega) (by omega) (by omega), e (260 + 14 * u) (by omega) (by omega) (by omega), takesM_6, e (261 + 14 * u) (by omega) (by omega) (by omega), e (262 + 14 * u) (by omega) (by omega) (by omega), e (263 + 14 * u) (by omega) (by omega) (by omega), e 0 (by omega) (by omega) (by omega), e 8 (by omega) (by omega) (by omega)]
        exact ⟨z.1, z.2.1, ⟨z.2.2.1.1, z.2.2.1.2.1, by omega⟩, z.2.2.2⟩
    · unfold cnt
      rw [c, show (m 1).toNat = N by omega, show clsB (takesM m rc N o fr to P E) N = false from decide_eq_false (by rw [takesM_st]; decide)]
      have := g4.1
      rw [show (m 1).toNat = N by omega] at this
      simp; omega
    · by_cases q : u = N
      · subst q
        rw [takesM_nm hn.2 hj]
        split
        · have := hl (fr + j) (by omega) (by omega)
          unfold isLt at this; omega
        · exact g6 u j hu hj
      · rw [e _ (by omega) (by omega) (by omega)]; exact g6 u j hu hj
  · refine ⟨fun q hq => ?_, ?_, ?_, fun u hu => ?_, fun u a b => ?_, fun u hu => Or.inl (e _ (by omega) (by omega) (by omega))⟩
    · unfold far at hq; rw [e q (by omega) (by omega) (by omega)]
    · rw [takesM_1]; omega
    · rw [e 2 (by omega) (by omega) (by omega), takesM_6]; omega
    · rw [e _ (by omega) (by omega) (by omega), e _ (by omega) (by omega) (by omega), e _ (by omega) (by omega) (by omega)]
      exact ⟨rfl, rfl, Iff.rfl, id⟩
    · rw [takesM_1] at b
      obtain rfl : u = N := by omega
      rw [takesM_st]; decide
end mg_77

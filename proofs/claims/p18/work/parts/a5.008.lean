section mg_a7
theorem nx_n {m : Nat → Int} : ∀ (n t : Nat), (nxL m n t (-5) = -5 ∧ ∀ u, t ≤ u → u < t + n → ¬ readyB m u = true) ∨ ∃ w : Nat, nxL m n t (-5) = w ∧ (t ≤ w ∧ w < t + n ∧ readyB m w = true) ∧ ∀ u, t ≤ u → u < t + n → readyB m u = true → u = w ∨ aheadP m w u
  | 0, t => Or.inl ⟨rfl, fun u x y => by omega⟩
  | n + 1, t => by
    unfold nxL
    by_cases c : readyB m t = true
    · rw [if_pos ⟨c, Or.inl (by decide)⟩]
      obtain ⟨w, e, w1, w2⟩ := nx_a (m := m) n (t + 1) t (by omega)
      refine Or.inr ⟨w, e, ?_, fun u x y z => ?_⟩
      · rcases w1 with rfl | ⟨w3, w4, w5, w6⟩
        · exact ⟨by omega, by omega, c⟩
        · exact ⟨by omega, by omega, w5⟩
      · by_cases q : u = t
        · subst q
          rcases w1 with rfl | ⟨w3, w4, w5, w6⟩
          · exact Or.inl rfl
          · exact Or.inr w6
        · exact w2 u (by omega) (by omega) z
    · rw [if_neg (fun g => c g.1)]
      rcases nx_n (m := m) n (t + 1) with ⟨e, w⟩ | ⟨w, e, w1, w2⟩
      · refine Or.inl ⟨e, fun u x y => ?_⟩
        by_cases q : u = t
        · subst q; exact c
        · exact w u (by omega) (by omega)
      · refine Or.inr ⟨w, e, ⟨by omega, by omega, w1.2.2⟩, fun u x y z => ?_⟩
        by_cases q : u = t
        · subst q; exact absurd z c
        · exact w2 u (by omega) (by omega) z
theorem cnt_one {p : Nat → Bool} {w : Nat} (h : p w = true) : ∀ n, w < n → 1 ≤ cnt p n
  | 0, k => absurd k (Nat.not_lt_zero _)
  | n + 1, k => by
    rw [cnt_S]
    by_cases c : w = n
    · subst c
      have := cnt_r p w
      rw [if_pos h]; omega
    · have := cnt_one h n (by omega)
      split <;> omega
theorem rp_n {c : Nat → Int} {K : Nat} : ∀ n t : Nat, (∀ u, t ≤ u → u < t + n → ¬ c (489 + 9 * u) = 0) → rpL c K 0 n t = -5
  | 0, t, _ => rfl
  | n + 1, t, h => by
    unfold rpL
    rw [if_neg (fun g => h t (Nat.le_refl _) (by omega) g.1)]
    exact rp_n n (t + 1) (fun u x y => h u (by omega) (by omega))
theorem rp_w {c : Nat → Int} {K w : Nat} (h1 : c (489 + 9 * w) = 0) (h2 : cnt (raB c w) K = 0) (h3 : ∀ u, u < K → ¬ u = w → c (489 + 9 * u) = 0 → 1 ≤ cnt (raB c u) K) : ∀ n t : Nat, t ≤ w → w < t + n → t + n ≤ K → rpL c K 0 n t = w
  | 0, t, x, y, _ => by omega
  | n + 1, t, x, y, z => by
    unfold rpL
    by_cases q : t = w
    · subst q
      rw [if_pos ⟨h1, h2⟩]
    · rw [if_neg (fun g => by have := h3 t (by omega) q g.1; omega)]
      exact rp_w h1 h2 h3 n (t + 1) (by omega) (by omega) (by omega)
end mg_a7

section mg_84
theorem pl_ex {m : Nat → Int} (hN : 0 ≤ m 1 ∧ m 1 ≤ 90) (hC : 0 ≤ m 0 ∧ m 0 ≤ 60) (hp : parI m (m 0).toNat) (ho : ∀ t : Nat, t < (m 1).toNat → 0 ≤ m (259 + 14 * t) ∧ m (259 + 14 * t) < (m 0).toNat) : ∀ (n s : Nat) (p : Nat → Int) (k : Nat), 61 ≤ n + s → (s : Int) < m 0 → (k : Int) + viaN m (m 1).toNat (m 0).toNat s (m 6 + 1) ≤ 90 → ∃ p' k', plR m n s p k p' k' ∧ (k' : Int) ≤ k + viaN m (m 1).toNat (m 0).toNat s (m 6 + 1)
  | 0, s, p, k, h, hs, hk => by omega
  | n + 1, s, p, k, h, hs, hk => by
    have ar := (cnt_r (fun e => bP (entryP m (m 1).toNat (m 0).toNat s e ∧ stampV m e < m 6 + 1)) 160).2
    obtain ⟨j, p', k', r1, r2⟩ := pl_loop hN hC hp ho (n := n) (s := s) (fun c p k hc hc2 hk => pl_ex hN hC hp ho n c p k (by omega) hc2 hk) 160 (m 6 + 1) p k (by unfold ahN; exact ar) hk
    exact ⟨p', k', ⟨j, r1⟩, r2⟩
theorem all_plan {m pool : Nat → Int} {B T a : Int} (h : All m pool B T) (ha : 0 ≤ a ∧ a ≤ m 0 - 1) (p : Nat → Int) : ∃ p' k', plR m 61 a p 0 p' k' ∧ k' ≤ 90 := by
  have k0 := h.1.1.1.2.1
  have k1 := h.1.1.1.2.2.1
  obtain ⟨s1, s2, s3⟩ := h.1.2.1
  have hv : viaN m (m 1).toNat (m 0).toNat a.toNat (m 6 + 1) ≤ 90 := by
    have := (cnt_r (fun t => bP (via m (m 1).toNat (m 0).toNat a.toNat (m 6 + 1) t)) (m 1).toNat).2
    unfold viaN
    omega
  obtain ⟨p', k', r1, r2⟩ := pl_ex k1 k0 (fun c hc => by
    by_cases z : c = 0
    · subst z
      rw [show 19 + 4 * 0 = 19 from rfl, s1]; decide
    · exact ((s3 c (by omega)).2 (by omega)).1.2) (fun t ht => by
    have := (h.1.1.2.2.1 t (by omega)).2.1
    exact ⟨this.1, by omega⟩) 61 a.toNat p 0 (by omega) (by omega) (by omega)
  rw [show ((a.toNat : Nat) : Int) = a by omega] at r1
  exact ⟨p', k', r1, by omega⟩
/-! numbers in a text, for spelling -/
theorem min_num {sr : Nat → Int} {p e k : Nat} (h : numS sr p e k) {j : Nat} (h1 : p ≤ j) (h2 : j < e) : ¬ sr j = 45 := by
  have := h.2.2 j h1 h2
  unfold dgP at this; omega
theorem min_nam {sr : Nat → Int} {p e : Nat} (h : namS sr p e) {j : Nat} (h1 : p ≤ j) (h2 : j < e) : ¬ sr j = 45 := by
  have := h.2.2.1 j h1 h2
  unfold isLt at this; omega
def minP (sr : Nat → Int) (p : Nat) : Prop := sr p = 45 → stopsBy sr 20 (p + 1) ∧ InR (numAt sr 20 p)
theorem min_sgn {sr : Nat → Int} {p e : Nat} (h : sgnS sr p e) (he : ¬ dgP (sr e)) {j : Nat} (h1 : p ≤ j) (h2 : j < e) : minP sr j := by
  intro z
  obtain ⟨⟨_, d1⟩, d2⟩ := sgn_dig h he
  rcases h with ⟨h3, h4⟩ | h
  · by_cases c : j = p
    · subst c
      rw [if_pos h3] at d1
      exact ⟨d1, ⟨by omega, by omega⟩⟩
    · exact absurd z (min_num h4 (by omega) h2)
  · exact absurd z (min_num h h1 h2)
end mg_84

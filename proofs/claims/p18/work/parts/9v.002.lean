section EXG
variable {pool : Nat → Int} {sink : Int} {cl : (Nat → Int) → Nat → (Nat → Int) → Prop} {sh : (Nat → Int) → Int → (Nat → Int) → Prop} {n : Nat}
theorem stepQ_exg {m : Nat → Int} {B s2 : Int} {k p e : Nat} (hPo : poolOk pool) (hC : CXG cl pool n) (h : Inv m pool B) (hB : B + 130 * n + 2 ≤ 2000000000) (hn : 91 ≤ n + cnt (cngB m) (m 1).toNat) (hs : InR s2) (hT : stepQ pool (stsC pool k) p e) (he : ¬ dgP (pool e)) (he2 : e ≤ p + 121) (hp : (e : Int) ≤ m 8) :
    ∃ f m', doesR pool (cl) m p s2 f m' ∧ Inv m' pool (B + 1) ∧ Ev m m' ∧ InR f := by
  rcases hT with hT | ⟨hk, hc, hq, q, hv, hq2, hT⟩
  · obtain ⟨f, m', a, b, c, d⟩ := stepT_exg hPo hC h hB hn hs hT he he2 hp
    exact ⟨f, m', Or.inl a, b, c, d⟩
  · have h8 := h.2.1.2.2
    have hl := sgnS_lt hv
    have hl2 := stepT_lt hT
    have nd : ¬ dgP (pool q) := by rw [hq2]; decide
    obtain ⟨d1, d2⟩ := sgn_dig hv nd
    have hnc : ∀ j, p + 3 ≤ j → j < q → ¬ pool j = 58 := by
      intro j a b
      rcases hv with ⟨v0, v1, v2, v3⟩ | ⟨v1, v2, v3⟩
      · by_cases z : j = p + 3
        · subst z; rw [v0]; decide
        · have := v3 j (by omega) b
          unfold dgP at this; omega
      · have := v3 j a b
        unfold dgP at this; omega
    have hnr : InR (numAt pool 20 (p + 3)) := ⟨by omega, by omega⟩
    by_cases z : m (10 + pool (p + 1) - 48).toNat < numAt pool 20 (p + 3)
    · obtain ⟨f, m', a, b, c, d⟩ := stepT_exg hPo hC h hB hn hs hT he (by omega) hp
      exact ⟨f, m', Or.inr ⟨hk, h.1, hs, by omega, hc, 20, q, d1, by omega, hq2, hnc, hnr, Or.inl ⟨z, a⟩⟩, b, c, d⟩
    · exact ⟨0, m, Or.inr ⟨hk, h.1, hs, by omega, hc, 20, q, d1, by omega, hq2, hnc, hnr, Or.inr ⟨z, rfl, rfl⟩⟩, h.up (by omega), Ev.rf, by decide⟩
end EXG

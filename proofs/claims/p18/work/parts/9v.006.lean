section EXG
variable {pool : Nat → Int} {sink : Int} {cl : (Nat → Int) → Nat → (Nat → Int) → Prop} {sh : (Nat → Int) → Int → (Nat → Int) → Prop} {n : Nat}
theorem over_exg (hPo : poolOk pool) (hCX : CXG cl pool 91) (hSX : SXG sh pool 61) {t : Nat} (ht : t ≤ 9) : ∀ (n : Nat) (m : Nat → Int) (B : Int), Mid m pool B → B ≤ 1900000000 → n ≤ 60 → (∀ k : Nat, k < n → 0 ≤ m (1620 + 72 * t + k) ∧ m (1620 + 72 * t + k) < m 0) → ∃ m', overR (sh) t n m m' ∧ Mid m' pool B ∧ Es m m'
  | 0, m, B, h, _, _, _ => ⟨m, rfl, h, Es.rf⟩
  | n + 1, m, B, h, hB, hn, hs => by
    obtain ⟨h1, h2, h3, h4⟩ := id h
    obtain ⟨s0, s1⟩ := hs n (by omega)
    have k0 := h1.1.2.1
    have es : (((m (1620 + 72 * t + n)).toNat : Nat) : Int) = m (1620 + 72 * t + n) := by omega
    obtain ⟨m1, a, b, c, d, -⟩ := hSX m (m (1620 + 72 * t + n)).toNat B h1 h2 h3 hB (by omega) (by omega) (fun c _ hc => h4 c hc)
    have e0 : m1 0 = m 0 := d.1 0 (Or.inl rfl)
    have st := (d.tk ht).1
    obtain ⟨m', a2, b2, c2⟩ := over_exg hPo hCX hSX ht n m1 B ⟨b, c, d.2.2.2.1 h3, d.ns h4 k0.2⟩ hB (by omega) (fun k hk => by
      rw [st _ (by omega) (by omega) (by omega), e0]
      exact hs k (by omega))
    exact ⟨m', ⟨h1.1.1, m1, by rw [es] at a; exact a, a2⟩, b2, d.tr c2⟩
end EXG

section mg_a8
theorem stp_few {m m' pool : Nat → Int} {p : Nat} {s2 f : Int} {cl : (Nat → Int) → Nat → (Nat → Int) → Prop} (hok : mOk m) (hcl : ∀ t m', cl m t m' → few m m') (k : stpR pool cl m p s2 f m') : few m m' := by
  obtain ⟨-, -, -, k⟩ := k
  have k1 := hok.2.2.1
  have k3 := hok.2.2.2.2.1
  rcases k with ⟨-, k1, -, n, -, rfl⟩ | ⟨-, rfl, -⟩ | ⟨-, n, -, -, -, rfl⟩ | ⟨-, ⟨-, -, rfl⟩ | ⟨-, -, k⟩⟩ | ⟨-, n, -, -, ⟨-, -, rfl⟩ | ⟨-, -, -, rfl⟩ | ⟨x, -, -, rfl⟩⟩ | ⟨-, k2, -, rfl⟩ | ⟨-, -, rfl⟩
  · exact ⟨updI_n (by omega), by rw [updI_n (by omega)]; exact Int.le_refl _, fun c hc => updI_n (by omega), fun k a b _ => updI_n (by omega)⟩
  · exact few.rf
  · unfold takenM
    split
    · have r := neL_r pool 7 (p + 1)
      have e : ∀ q, ¬ q = 1 → ¬ q = 6 → (q < 258 + 14 * (m 1).toNat ∨ 272 + 14 * (m 1).toNat ≤ q) → takesM m pool (m 1).toNat s2 (p + 1) (neL pool 7 (p + 1)) (ftF pool n (neL pool 7 (p + 1))).1 (ftF pool n (neL pool 7 (p + 1))).2 q = m q := fun q a b c => takesM_n (by omega) a b c
      exact ⟨e 0 (by omega) (by omega) (by omega), by rw [e 2 (by omega) (by omega) (by omega)]; exact Int.le_refl _, fun c hc => e _ (by omega) (by omega) (by omega), fun k a b _ => e k (by omega) (by omega) (by omega)⟩
    · exact few.rf
  · exact few.rf
  · exact hcl _ _ k
  · exact few.rf
  · exact few.rf
  · have lt := hbL_lt (m := m) (rc := pool) (fr := p + 1) (to := neL pool 7 (p + 1)) (m 1).toNat 0 x
    generalize hbL m pool (p + 1) (neL pool 7 (p + 1)) (m 1).toNat 0 = t at *
    have e : ∀ q s, ¬ q = 6 → ¬ q = 259 + 14 * t.toNat → ¬ q = 260 + 14 * t.toNat → movesM m t.toNat s q = m q := fun q s a b c => by unfold movesM; rw [updI_n c, updI_n a, updI_n b]
    exact ⟨e 0 _ (by omega) (by omega) (by omega), by rw [e 2 _ (by omega) (by omega) (by omega)]; exact Int.le_refl _, fun c hc => e _ _ (by omega) (by omega) (by omega), fun k a b _ => e k _ (by omega) (by omega) (by omega)⟩
  · split
    · have e : (1614 + 72 * (pool (p + 1) - 48)).toNat = 1614 + 72 * (pool (p + 1) - 48).toNat := by omega
      rw [e]
      exact ⟨updI_n (by omega), by rw [updI_n (by omega)]; exact Int.le_refl _, fun c hc => updI_n (by omega), fun k a b d => updI_n (d _)⟩
    · exact few.rf
  · exact few.rf
end mg_a8

theorem all_shut {m pool : Nat → Int} {B T t : Int} (h : All m pool B T) (hP : poolOk pool) (hB : B ≤ 1900000000) (hd : openP m t) : ∃ m', shutsR pool (-1) 61 (updI m 5 0) t m' ∧ All m' pool B T ∧ m' 8 = m 8 := by
  have h5 := h.low (k := 5) (v := 0) (by decide) (Or.inr ⟨rfl, rfl⟩)
  have e : ∀ q, ¬ q = 5 → updI m 5 0 q = m q := fun q a => updI_n a
  obtain ⟨m', a, b, c, d, -⟩ := shuts_ex hP (sink := -1) (by decide) 61 _ t.toNat B h5.1.1 h5.1.2.1 h5.1.2.2.1 hB (by omega) (by rw [e 0 (by omega)]; have := hd.1; have := hd.2.1; omega) (fun c _ hc => h5.1.2.2.2 c hc)
  rw [show ((t.toNat : Nat) : Int) = t by have := hd.1; omega] at a
  exact ⟨m', a, h5.es b c d, (d.1 8 (Or.inr (Or.inr (Or.inr (Or.inl rfl))))).trans (e 8 (by omega))⟩
theorem all_move {m pool : Nat → Int} {B T t s : Int} (h : All m pool B T) (hB : B ≤ 1900000000) (hd : moveDo m t s) : All (movesM m t.toNat s) pool (B + 1) T ∧ movesM m t.toNat s 8 = m 8 := by
  obtain ⟨d1, d2, d3⟩ := hd
  obtain ⟨i1, i2⟩ := inv_move h.1.1 (t := t.toNat) (s := s) (by omega) ⟨d3.1, by have := d3.2.1; omega⟩ (by omega)
  have k0 := h.1.1.1.2.1
  exact ⟨h.es i1 (i2.sc h.1.2.1 k0.2) i2.es, i2.1 8 (by unfold far; omega)⟩
/-! a TASK comes -/

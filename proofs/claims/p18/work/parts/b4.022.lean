section mg_b9
section EV
variable {m pool c : Nat → Int} {S : Nat → Option mO} {C : Nat → Nat → Int} {nm : Nat → Int64} {g : Nat → Option Nat} {a : Int} {Z N K : Nat}
/-- the next one below a stamp -/
theorem ea_step {f : Nat → Int} (h : entE m c f N K Z a) {st : Int} {P : Nat} (hP : P ≤ Z) (hst : ∀ j, j < Z → enB c f a j = true → (stampI m (f j) < st ↔ j < P)) (h1 : 1 ≤ cnt (enB c f a) P) : ∃ p, p < P ∧ enB c f a p = true ∧ cnt (enB c f a) p = cnt (enB c f a) P - 1 ∧ eaV m N K a st = f p := by
  obtain ⟨h2, h3, h4, h5, -⟩ := h
  obtain ⟨p, p1, p2, p3⟩ := cnt_at (P := enB c f a) (k := cnt (enB c f a) P - 1) (by omega) P (by omega)
  refine ⟨p, p1, p2, p3, ?_⟩
  have key := ea_max (m := m) (N := N) (C := K) (a := a) (st := st) 160 0 (-5) (by decide) (Or.inl (by decide))
  unfold eaV
  generalize eaL m N K a st 160 0 (-5) = r at key ⊢
  obtain ⟨a1, a2, a3, a4⟩ := key
  have fp := h2 p (by omega)
  have ep := h4 p (by omega) p2
  have sp := (hst p (by omega) p2).mpr p1
  have cp : ((((f p).toNat : Nat)) : Int) = f p := by omega
  obtain ⟨b1, b2⟩ := a4 (f p).toNat (Nat.zero_le _) (by omega) ep (by rw [stV_I, cp]; exact sp)
  obtain ⟨c1, c2⟩ := a2 b1
  obtain ⟨j, j1, j2, j3⟩ := h5 _ c1
  rw [stV_I, ← j2] at c2
  rw [stV_I, stV_I, cp, ← j2] at b2
  have jP := (hst j j1 j3).mp c2
  have jp : j = p := by
    rcases Nat.lt_trichotomy j p with x | x | x
    · have := h3 j p x (by omega); omega
    · exact x
    · exfalso
      have y := cnt_mono (p := enB c f a) (show j + 1 ≤ P by omega)
      have y2 := cnt_mono (p := enB c f a) (show p + 1 ≤ j by omega)
      rw [cnt_S, if_pos j3] at y
      rw [cnt_S, if_pos p2] at y2
      omega
  rw [jp] at j2
  omega
end EV
end mg_b9

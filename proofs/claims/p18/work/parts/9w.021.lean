section mg_a0
theorem lastI_m {m : Nat → Int} {s : Int} (h0 : 1 ≤ m 0) (h1 : 0 ≤ m 1 ∧ m 1 ≤ 90) (hsp : ∀ e, canP m s e → 0 ≤ stampI m e) : (lastI m s < 0 ∧ ∀ e, ¬ canP m s e) ∨ (0 ≤ lastI m s ∧ canP m s (lastI m s) ∧ ∀ e, canP m s e → stampI m e ≤ stampI m (lastI m s)) := by
  obtain ⟨a1, a2, a3⟩ := loT_m (m := m) (s := s) (m 1).toNat 0 (-5, -1)
  obtain ⟨b1, b2, b3⟩ := loS_m (m := m) (s := s) ((m 0).toNat - 1) 1 (loT m s (m 1).toNat 0 (-5, -1))
  have eL : lastI m s = (loS m s ((m 0).toNat - 1) 1 (loT m s (m 1).toNat 0 (-5, -1))).1 := rfl
  generalize loS m s ((m 0).toNat - 1) 1 (loT m s (m 1).toNat 0 (-5, -1)) = R2 at b1 b2 b3 eL
  generalize loT m s (m 1).toNat 0 (-5, -1) = R1 at a1 a2 a3 b1 b3
  dsimp only at a1
  have mx : ∀ e, canP m s e → stampI m e ≤ R2.2 := fun e he => by
    rcases he with ⟨t, rfl, x, y, w⟩ | ⟨a, rfl, x, y, w, v⟩
    · rw [stampI_t (by omega)]
      have := a2 t (by omega) (by omega) y w
      omega
    · rw [stampI_s]
      exact b2 a x (by omega) w v
  rw [eL]
  rcases b3 with b3 | ⟨u, u1, u2, u3, u4, u5⟩
  · rcases a3 with a3 | ⟨u, u1, u2, u3, u4, u5⟩
    · left
      rw [b3, a3]
      refine ⟨by decide, fun e he => ?_⟩
      have p1 := hsp e he
      have p2 := mx e he
      rw [b3, a3] at p2
      dsimp only at p2
      omega
    · right
      rw [b3, u3]
      have cp : canP m s (u : Int) := Or.inl ⟨u, rfl, by omega, u4, u5⟩
      refine ⟨by dsimp only; omega, cp, fun e he => ?_⟩
      have p2 := mx e he
      rw [b3, u3] at p2
      rw [stampI_t (m := m) (t := u) (by omega)]
      exact p2
  · right
    rw [u3]
    have cp : canP m s (100 + (u : Int)) := Or.inr ⟨u, rfl, u1, by omega, u4, u5⟩
    refine ⟨by dsimp only; omega, cp, fun e he => ?_⟩
    have p2 := mx e he
    rw [u3] at p2
    rw [stampI_s]
    exact p2
end mg_a0

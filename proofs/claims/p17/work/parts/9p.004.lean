section AT2
variable {sr sr' : Nat → Int} {d d' : Nat}
theorem stL_2 {S : Nat → Option mO} : ∀ (n : Nat) (it : Bool) (o a hi p E : Nat), lik2 sr sr' d d' p E → stL S sr n it o a hi (p + d) (E + d) → stL S sr' n it o a hi (p + d') (E + d')
  | 0, _, _, _, _, _, _, _, h => h.elim
  | n + 1, it, o, a, hi, p, E, hl, h => by
    obtain ⟨nx, mid, e, o', h1, h2, h3, h4⟩ := h
    have lt : p + d < e := by
      rcases h1 with ⟨k, -⟩ | ⟨-, -, -, k, -⟩ | ⟨-, -, -, k, -⟩
      · exact stepQ_lt (stQ_t (st := fun _ _ => True) (fun _ _ _ _ => trivial) k)
      · omega
      · omega
    obtain ⟨e0, rfl⟩ : ∃ e0, e = e0 + d := ⟨e - d, by omega⟩
    have le : e0 ≤ E := by
      rcases h4 with h4 | h4
      · omega
      · omega
    refine ⟨nx, mid, e0 + d', o', ?_, h2, by rw [hl e0 (by omega) le]; exact h3, ?_⟩
    · rcases h1 with ⟨k, ko⟩ | ⟨k0, k1, k2, k3, k4, k5⟩ | ⟨k0, k1, k2, k3, k4, k5⟩
      · exact Or.inl ⟨stQ_2 (hl.sub (Nat.le_refl _) le) (endC_d h3) (fun b q r x y g => stL_2 n false 0 b mid q r (hl.sub x (by omega)) g) k, ko⟩
      · exact Or.inr (Or.inl ⟨k0, k1, by rw [hl p (Nat.le_refl _) (by omega)]; exact k2, by omega, k4, k5⟩)
      · exact Or.inr (Or.inr ⟨k0, k1, by rw [hl p (Nat.le_refl _) (by omega)]; exact k2, by omega, k4, k5⟩)
    · rcases h4 with h4 | ⟨h4, h5, b, h6, h7, h8⟩
      · exact Or.inl ⟨by omega, h4.2⟩
      · refine Or.inr ⟨by omega, by rw [hl e0 (by omega) le]; exact h5, b, h6, h7, ?_⟩
        have := stL_2 n it o' b hi (e0 + 1) E (hl.sub (by omega) (Nat.le_refl _)) (by rw [show e0 + 1 + d = e0 + d + 1 by omega]; exact h8)
        rw [show e0 + d' + 1 = e0 + 1 + d' by omega]; exact this
end AT2

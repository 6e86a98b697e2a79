/-- it ends -/
theorem sgL_e {S : Nat → Option mO} {sr : Nat → Int} {it : Bool} : ∀ (k o a l hi p E o' : Nat), sgL S sr it k o a l hi p E o' → endC (sr E) → ∃ n, stL S sr n it o a hi p E
  | 0, o, a, l, hi, p, E, o', h, hE => by
    obtain ⟨rfl, h⟩ := h
    obtain ⟨n, h⟩ := stK_fu h
    exact ⟨n + 1, none, hi, E, o', h, Nat.le_refl _, hE, Or.inl ⟨rfl, rfl⟩⟩
  | k + 1, o, a, l, hi, p, E, o', h, hE => by
    obtain ⟨b, mid, e1, o1, h1, h2, h3, h4, h5⟩ := h
    obtain ⟨n, h1⟩ := stK_fu h1
    obtain ⟨n2, h6⟩ := sgL_e k o1 b l hi (e1 + 1) E o' h5 hE
    refine ⟨(n + n2) + 1, some b, mid, e1, o1, stK_c (Nat.le_refl _) (fun _ _ _ => rfl) (fun c q r _ g => stL_m (by omega) g) (fun _ _ _ _ _ g => g) h1, by omega, Or.inl h2, Or.inr ⟨h4, h2, b, rfl, h3.1, stL_m (by omega) h6⟩⟩

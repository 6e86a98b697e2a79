section mg_c1
section BN
variable {m c : Nat → Int} {nm : Nat → Int64}
theorem hf_eq (hT : crT m c nm) (hst : ∀ t : Nat, (t : Int) < m 1 → 0 ≤ m (258 + 14 * t) ∧ m (258 + 14 * t) ≤ 2) {N : Nat} (hN : m 1 = (N : Int)) {f : Nat → Int} {b : Nat} (hb : b ≤ 120) (hf : ∀ j, j < b → 1 ≤ f j) : ∀ (n t : Nat) (x : Int), t + n = N → (x < 0 ∨ (0 ≤ x ∧ x < t)) → hfL c nm (fun y => lessL y (b : Int) f 8 0) n t x = frL m f (b : Int) n t x
  | 0, t, x, _, _ => rfl
  | n + 1, t, x, h, hx => by
    unfold hfL frL
    have a := hd_eq hT hst (t := t) (by omega)
    obtain ⟨-, -, -, q1, q2⟩ := hT t (by omega)
    have l := less_eq (m := m) (t := t) q2 hb hf
    have e : (c (32 + 3 * t) = 0 ∧ (fun y => lessL y (b : Int) f 8 0) (nm t) = false ∧ (x < 0 ∨ (nm t).toInt < (nm x.toNat).toInt)) ↔ (heldB m t = true ∧ 0 ≤ agV m f t 0 (b : Int) ∧ (x < 0 ∨ agT m t x.toNat < 0)) := by
      rw [a]
      refine and_congr Iff.rfl (and_congr ?_ ?_)
      · show lessL (nm t) (b : Int) f 8 0 = false ↔ _
        rw [q1, Bool.eq_false_iff]
        constructor
        · intro g
          by_cases z : agV m f t 0 (b : Int) < 0
          · exact absurd (l.mpr z) g
          · omega
        · intro g z
          have := l.mp z
          omega
      · by_cases z : x < 0
        · exact ⟨fun _ => Or.inl z, fun _ => Or.inl z⟩
        · have y := nm_lt hT (t := t) (u := x.toNat) (by omega) (by omega)
          constructor
          · rintro (g | g)
            · exact Or.inl g
            · exact Or.inr (y.mp g)
          · rintro (g | g)
            · exact Or.inl g
            · exact Or.inr (y.mpr g)
    by_cases z : heldB m t = true ∧ 0 ≤ agV m f t 0 (b : Int) ∧ (x < 0 ∨ agT m t x.toNat < 0)
    · rw [if_pos z, if_pos (e.mpr z)]
      exact hf_eq hT hst hN hb hf n (t + 1) (t : Int) (by omega) (Or.inr ⟨by omega, by omega⟩)
    · rw [if_neg z, if_neg (fun g => z (e.mp g))]
      exact hf_eq hT hst hN hb hf n (t + 1) x (by omega) (by omega)
end BN
end mg_c1

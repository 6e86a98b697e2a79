section mg_b9
theorem ea_max {m : Nat → Int} {N C : Nat} {a st : Int} : ∀ (n e : Nat) (f : Int), -5 ≤ f → (f < 0 ∨ (entryP m N C a f.toNat ∧ stampV m f.toNat < st)) →
    (eaL m N C a st n e f = f ∨ 0 ≤ eaL m N C a st n e f) ∧ (0 ≤ eaL m N C a st n e f → entryP m N C a (eaL m N C a st n e f).toNat ∧ stampV m (eaL m N C a st n e f).toNat < st) ∧ (0 ≤ f → 0 ≤ eaL m N C a st n e f ∧ stampV m f.toNat ≤ stampV m (eaL m N C a st n e f).toNat) ∧
    ∀ u, e ≤ u → u < e + n → entryP m N C a u → stampV m u < st → 0 ≤ eaL m N C a st n e f ∧ stampV m u ≤ stampV m (eaL m N C a st n e f).toNat
  | 0, e, f, h5, hf => ⟨Or.inl rfl, fun g => by
      rcases hf with x | x
      · exact absurd g (by show ¬ 0 ≤ f; omega)
      · exact x, fun g => ⟨g, Int.le_refl _⟩, fun u x y => by omega⟩
  | n + 1, e, f, h5, hf => by
    unfold eaL
    by_cases z : entryP m N C a e ∧ stampV m e < st ∧ (f < 0 ∨ stampV m f.toNat < stampV m e)
    · rw [if_pos z]
      obtain ⟨a1, a2, a3, a4⟩ := ea_max (N := N) (C := C) (a := a) (st := st) n (e + 1) (e : Int) (by omega) (Or.inr (by rw [show ((e : Int)).toNat = e by omega]; exact ⟨z.1, z.2.1⟩))
      rw [show ((e : Int)).toNat = e by omega] at a3
      obtain ⟨b1, b2⟩ := a3 (by omega)
      refine ⟨Or.inr b1, a2, fun g => ⟨b1, ?_⟩, fun u x y z1 z2 => ?_⟩
      · rcases z.2.2 with w | w <;> omega
      · by_cases w : u = e
        · subst w; exact ⟨b1, b2⟩
        · exact a4 u (by omega) (by omega) z1 z2
    · rw [if_neg z]
      obtain ⟨a1, a2, a3, a4⟩ := ea_max (N := N) (C := C) (a := a) (st := st) n (e + 1) f h5 hf
      refine ⟨a1, a2, a3, fun u x y z1 z2 => ?_⟩
      by_cases w : u = e
      · subst w
        have w2 : 0 ≤ f ∧ ¬ stampV m f.toNat < stampV m u := by
          refine ⟨?_, fun g => z ⟨z1, z2, Or.inr g⟩⟩
          by_cases q : 0 ≤ f
          · exact q
          · exact absurd ⟨z1, z2, Or.inl (by omega)⟩ z
        obtain ⟨b1, b2⟩ := a3 w2.1
        exact ⟨b1, by omega⟩
      · exact a4 u (by omega) (by omega) z1 z2
end mg_b9

section mg_c1
theorem less_eq {m f : Nat → Int} {t b : Nat} (ht : nmOk m t) (hb : b ≤ 120) (hf : ∀ j, j < b → 1 ≤ f j) : lessL (nmR m t) (b : Int) f 8 0 = true ↔ agV m f t 0 (b : Int) < 0 := by
  obtain ⟨ht1, ht2⟩ := ht
  obtain ⟨a, ea⟩ : ∃ a : Nat, m (261 + 14 * t) = a := ⟨(m (261 + 14 * t)).toNat, by omega⟩
  have lt : ∀ j, 265 + 14 * t ≤ j → j < 265 + 14 * t + a → isLt (m j) := fun j h1 h2 => by
    have := ht2 (j - (265 + 14 * t)) (by omega)
    rw [show 265 + 14 * t + (j - (265 + 14 * t)) = j by omega] at this; exact this
  have hM : agN a b = if a ≤ b then a else b := by
    unfold agN
    by_cases z : a ≤ b
    · rw [if_pos (by omega), if_pos z]; omega
    · rw [if_neg (by omega), if_neg z]; omega
  have X : ∀ i : Nat, letV (nmR m t) (i : Int) = if i < a then m (265 + 14 * t + i) else 0 := fun i => by
    unfold nmR
    rw [ea, show ((a : Int)).toNat = a by omega]
    by_cases z : i < 7
    · rw [letV_n lt z]
      by_cases w : i < a
      · rw [if_pos (by omega), if_pos w]
      · rw [if_neg (by omega), if_neg w]
    · rw [letV_o (by omega), if_neg (by omega)]
  have T : ∀ i : Nat, atF 120 (b : Int) f (i : Int) = if i < b then f i else 0 := fun i => by
    unfold atF
    by_cases w : i < b
    · rw [if_pos w, if_pos ⟨by omega, by omega, by omega⟩]; rfl
    · rw [if_neg w, if_neg (fun z => w (by have := z.2.1; omega))]
  rw [less_l]
  unfold agV
  rw [ea, ag_lt _ 0 (fun i hi => absurd hi (Nat.not_lt_zero _)), Nat.zero_add, hM]
  unfold lexP
  constructor
  · rintro ⟨j, -, j1, j2, j3⟩
    rw [X j, T j] at j3
    have pos : ∀ i, i < a → 97 ≤ m (265 + 14 * t + i) := fun i hi => (lt _ (by omega) (by omega)).1
    have jb : j < b := by
      by_cases z : j < b
      · exact z
      · rw [if_neg z] at j3
        by_cases w : j < a
        · rw [if_pos w] at j3; have := pos j w; omega
        · rw [if_neg w] at j3; omega
    have pre : ∀ i, i < j → (if i < a then m (265 + 14 * t + i) else 0) = f i := fun i hi => by
      have := j2 i (Nat.zero_le _) hi
      rw [X i, T i, if_pos (show i < b by omega)] at this
      exact this
    by_cases ja : j < a
    · refine Or.inl ⟨j, by split <;> omega, fun i hi => ?_, ?_⟩
      · have := pre i hi
        rw [if_pos (by omega)] at this
        show m (265 + 14 * t + i) = f (0 + i)
        rw [Nat.zero_add]; exact this
      · rw [if_pos ja, if_pos jb] at j3
        show m (265 + 14 * t + j) < f (0 + j)
        rw [Nat.zero_add]; exact j3
    · have ejA : j = a := by
        by_cases z : j = a
        · exact z
        · exfalso
          have q := pre a (by omega)
          rw [if_neg (by omega)] at q
          have := hf a (by omega)
          omega
      subst ejA
      rw [if_pos (by omega)]
      refine Or.inr ⟨fun i hi => ?_, by omega⟩
      have := pre i (by omega)
      rw [if_pos (show i < j by omega)] at this
      show m (265 + 14 * t + i) = f (0 + i)
      rw [Nat.zero_add]; exact this
  · rintro (⟨j, j1, j2, j3⟩ | ⟨g1, g2⟩)
    · have ja : j < a ∧ j < b := by split at j1 <;> omega
      have j3' : m (265 + 14 * t + j) < f (0 + j) := j3
      rw [Nat.zero_add] at j3'
      refine ⟨j, Nat.zero_le _, by omega, fun i _ hi => ?_, ?_⟩
      · have q : m (265 + 14 * t + i) = f (0 + i) := j2 i hi
        rw [Nat.zero_add] at q
        rw [X i, T i, if_pos (by omega), if_pos (by omega)]; exact q
      · rw [X j, T j, if_pos ja.1, if_pos ja.2]; exact j3'
    · have ab : a < b := by omega
      rw [if_pos (by omega)] at g1
      refine ⟨a, Nat.zero_le _, by omega, fun i _ hi => ?_, ?_⟩
      · have q : m (265 + 14 * t + i) = f (0 + i) := g1 i (by omega)
        rw [Nat.zero_add] at q
        rw [X i, T i, if_pos (show i < a by omega), if_pos (by omega)]; exact q
      · rw [X a, T a, if_neg (by omega), if_pos ab]
        have := hf a ab
        omega
end mg_c1

/-! ===== things by their names, on both sides ===== -/
theorem less_l {y : Int64} {z : Int} {f : Nat → Int} : ∀ n t, lessL y z f n t = true ↔ ∃ j : Nat, t ≤ j ∧ j < t + n ∧ (∀ i : Nat, t ≤ i → i < j → letV y (i : Int) = atF 120 z f (i : Int)) ∧ letV y (j : Int) < atF 120 z f (j : Int)
  | 0, t => ⟨fun g => absurd g Bool.false_ne_true, fun ⟨j, a, b, _⟩ => absurd b (by omega)⟩
  | n + 1, t => by
    unfold lessL
    by_cases z : letV y t = atF 120 z f t
    · rw [if_pos z, less_l n (t + 1)]
      constructor
      · rintro ⟨j, a, b, c, d⟩
        refine ⟨j, by omega, by omega, fun i h1 h2 => ?_, d⟩
        by_cases w : i = t
        · subst w; exact z
        · exact c i (by omega) h2
      · rintro ⟨j, a, b, c, d⟩
        have jt : ¬ j = t := fun w => by subst w; omega
        exact ⟨j, by omega, by omega, fun i h1 h2 => c i (by omega) h2, d⟩
    · rw [if_neg z, decide_eq_true_iff]
      constructor
      · intro g; exact ⟨t, Nat.le_refl _, by omega, fun i h1 h2 => by omega, g⟩
      · rintro ⟨j, a, b, c, d⟩
        by_cases w : j = t
        · subst w; exact d
        · exact absurd (c t (Nat.le_refl _) (by omega)) z
theorem less_eq {m f : Nat → Int} {t b : Nat} (ht : nmOk m t) (hb : b ≤ 120) (hf : ∀ j, j < b → 1 ≤ f j) : lessL (nmR m t) (b : Int) f 8 0 = true ↔ agV m f t 0 (b : Int) < 0 := by
  obtain ⟨ht1, ht2⟩ := ht
  obtain ⟨a, ea⟩ : ∃ a : Nat, m (261 + 14 * t) = a := ⟨(m (261 + 14 * t)).toNat, by omega⟩
  have lt : ∀ j, 265 + 14 * t ≤ j → j < 265 + 14 * t + a → isLt (m j) := fun j h1 h2 => by
    have := ht2 (j - (265 + 14 * t)) (by omega)
    rw [show 265 + 14 * t + (j - (265 + 14 * t)) = j by omega] at this; exact this
  have hM : agN a b = if a ≤ b then a else b := by
    unfold agN
    by_cases z : a ≤ b
    · rw [if_pos (by omega), if_pos z]; omega
    · rw [if_neg (by omega), if_neg z]; omega
  have X : ∀ i : Nat, letV (nmR m t) (i : Int) = if i < a then m (265 + 14 * t + i) else 0 := fun i => by
    unfold nmR
    rw [ea, show ((a : Int)).toNat = a by omega]
    by_cases z : i < 7
    · rw [letV_n lt z]
      by_cases w : i < a
      · rw [if_pos (by omega), if_pos w]
      · rw [if_neg (by omega), if_neg w]
    · rw [letV_o (by omega), if_neg (by omega)]
  have T : ∀ i : Nat, atF 120 (b : Int) f (i : Int) = if i < b then f i else 0 := fun i => by
    unfold atF
    by_cases w : i < b
    · rw [if_pos w, if_pos ⟨by omega, by omega, by omega⟩]; rfl
    · rw [if_neg w, if_neg (fun z => w (by have := z.2.1; omega))]
  rw [less_l]
  unfold agV
  rw [ea, ag_lt _ 0 (fun i hi => absurd hi (Nat.not_lt_zero _)), Nat.zero_add, hM]
  unfold lexP
  constructor
  · rintro ⟨j, -, j1, j2, j3⟩
    rw [X j, T j] at j3
    have pos : ∀ i, i < a → 97 ≤ m (265 + 14 * t + i) := fun i hi => (lt _ (by omega) (by omega)).1
    have jb : j < b := by
      by_cases z : j < b
      · exact z
      · rw [if_neg z] at j3
        by_cases w : j < a
        · rw [if_pos w] at j3; have := pos j w; omega
        · rw [if_neg w] at j3; omega
    have pre : ∀ i, i < j → (if i < a then m (265 + 14 * t + i) else 0) = f i := fun i hi => by
      have := j2 i (Nat.zero_le _) hi
      rw [X i, T i, if_pos (show i < b by omega)] at this
      exact this
    by_cases ja : j < a
    · refine Or.inl ⟨j, by split <;> omega, fun i hi => ?_, ?_⟩
      · have := pre i hi
        rw [if_pos (by omega)] at this
        show m (265 + 14 * t + i) = f (0 + i)
        rw [Nat.zero_add]; exact this
      · rw [if_pos ja, if_pos jb] at j3
        show m (265 + 14 * t + j) < f (0 + j)
        rw [Nat.zero_add]; exact j3
    · have ejA : j = a := by
        by_cases z : j = a
        · exact z
        · exfalso
          have q := pre a (by omega)
          rw [if_neg (by omega)] at q
          have := hf a (by omega)
          omega
      subst ejA
      rw [if_pos (by omega)]
      refine Or.inr ⟨fun i hi => ?_, by omega⟩
      have := pre i (by omega)
      rw [if_pos (show i < j by omega)] at this
      show m (265 + 14 * t + i) = f (0 + i)
      rw [Nat.zero_add]; exact this
  · rintro (⟨j, j1, j2, j3⟩ | ⟨g1, g2⟩)
    · have ja : j < a ∧ j < b := by split at j1 <;> omega
      have j3' : m (265 + 14 * t + j) < f (0 + j) := j3
      rw [Nat.zero_add] at j3'
      refine ⟨j, Nat.zero_le _, by omega, fun i _ hi => ?_, ?_⟩
      · have q : m (265 + 14 * t + i) = f (0 + i) := j2 i hi
        rw [Nat.zero_add] at q
        rw [X i, T i, if_pos (by omega), if_pos (by omega)]; exact q
      · rw [X j, T j, if_pos ja.1, if_pos ja.2]; exact j3'
    · have ab : a < b := by omega
      rw [if_pos (by omega)] at g1
      refine ⟨a, Nat.zero_le _, by omega, fun i _ hi => ?_, ?_⟩
      · have q : m (265 + 14 * t + i) = f (0 + i) := g1 i (by omega)
        rw [Nat.zero_add] at q
        rw [X i, T i, if_pos (show i < a by omega), if_pos (by omega)]; exact q
      · rw [X a, T a, if_neg (by omega), if_pos ab]
        have := hf a ab
        omega
section BN
variable {m c : Nat → Int} {nm : Nat → Int64}
theorem hd_eq (hT : crT m c nm) (hst : ∀ t : Nat, (t : Int) < m 1 → 0 ≤ m (258 + 14 * t) ∧ m (258 + 14 * t) ≤ 2) {t : Nat} (ht : (t : Int) < m 1) : c (32 + 3 * t) = 0 ↔ heldB m t = true := by
  unfold heldB
  rw [(hT t ht).1, swT_0 (hst t ht), decide_eq_true_iff]
theorem nm_lt (hT : crT m c nm) {t u : Nat} (ht : (t : Int) < m 1) (hu : (u : Int) < m 1) : (nm t).toInt < (nm u).toInt ↔ agT m t u < 0 := by
  rw [(hT t ht).2.2.2.1, (hT u hu).2.2.2.1]
  exact nmR_lt (hT t ht).2.2.2.2 (hT u hu).2.2.2.2
theorem hp_eq (hT : crT m c nm) (hst : ∀ t : Nat, (t : Int) < m 1 → 0 ≤ m (258 + 14 * t) ∧ m (258 + 14 * t) ≤ 2) {N : Nat} (hN : m 1 = (N : Int)) {i : Int} : ∀ n t, t + n = N → hpL c nm N i n t = bnL m N i n t
  | 0, t, _ => rfl
  | n + 1, t, h => by
    unfold hpL bnL
    have e1 : cnt (haB c nm (nm t)) N = cnt (nmB m t) N := cnt_congr _ (fun q hq => by
      have a := hd_eq hT hst (t := q) (by omega)
      have b := nm_lt hT (t := q) (u := t) (by omega) (by omega)
      unfold haB nmB
      by_cases z : heldB m q = true
      · rw [z, Bool.true_and]; exact decide_eq_decide.mpr ⟨fun g => b.mp g.2, fun g => ⟨a.mpr z, b.mpr g⟩⟩
      · rw [Bool.eq_false_iff.mpr z, Bool.false_and]; exact decide_eq_false (fun g => z (a.mp g.1)))
    have a := hd_eq hT hst (t := t) (by omega)
    rw [e1, hp_eq hT hst hN n (t + 1) (by omega)]
    by_cases z : heldB m t = true ∧ cnt (nmB m t) N = i
    · rw [if_pos z, if_pos ⟨a.mpr z.1, z.2⟩]
    · rw [if_neg z, if_neg (fun g => z ⟨a.mp g.1, g.2⟩)]
theorem hf_eq (hT : crT m c nm) (hst : ∀ t : Nat, (t : Int) < m 1 → 0 ≤ m (258 + 14 * t) ∧ m (258 + 14 * t) ≤ 2) {N : Nat} (hN : m 1 = (N : Int)) {f : Nat → Int} {b : Nat} (hb : b ≤ 120) (hf : ∀ j, j < b → 1 ≤ f j) : ∀ (n t : Nat) (x : Int), t + n = N → (x < 0 ∨ (0 ≤ x ∧ x < t)) → hfL c nm (fun y => lessL y (b : Int) f 8 0) n t x = frL m f (b : Int) n t x
  | 0, t, x, _, _ => rfl
  | n + 1, t, x, h, hx => by
    unfold hfL frL
    have a := hd_eq hT hst (t := t) (by omega)
    obtain ⟨-, -, -, q1, q2⟩ := hT t (by omega)
    have l := less_eq (m := m) (t := t) q2 hb hf
    have e : (c (32 + 3 * t) = 0 ∧ (fun y => lessL y (b : Int) f 8 0) (nm t) = false ∧ (x < 0 ∨ (nm t).toInt < (nm x.toNat).toInt)) ↔ (heldB m t = true ∧ 0 ≤ agV m f t 0 (b : Int) ∧ (x < 0 ∨ agT m t x.toNat < 0)) := by
      rw [a]
      refine and_congr Iff.rfl (and_congr ?_ ?_)
      · show lessL (nm t) (b : Int) f 8 0 = false ↔ _
        rw [q1, Bool.eq_false_iff]
        constructor
        · intro g
          by_cases z : agV m f t 0 (b : Int) < 0
          · exact absurd (l.mpr z) g
          · omega
        · intro g z
          have := l.mp z
          omega
      · by_cases z : x < 0
        · exact ⟨fun _ => Or.inl z, fun _ => Or.inl z⟩
        · have y := nm_lt hT (t := t) (u := x.toNat) (by omega) (by omega)
          constructor
          · rintro (g | g)
            · exact Or.inl g
            · exact Or.inr (y.mp g)
          · rintro (g | g)
            · exact Or.inl g
            · exact Or.inr (y.mpr g)
    by_cases z : heldB m t = true ∧ 0 ≤ agV m f t 0 (b : Int) ∧ (x < 0 ∨ agT m t x.toNat < 0)
    · rw [if_pos z, if_pos (e.mpr z)]
      exact hf_eq hT hst hN hb hf n (t + 1) (t : Int) (by omega) (Or.inr ⟨by omega, by omega⟩)
    · rw [if_neg z, if_neg (fun g => z (e.mp g))]
      exact hf_eq hT hst hN hb hf n (t + 1) x (by omega) (by omega)
/-- a name's letters -/
theorem name_eq (hT : crT m c nm) {t : Nat} (ht : (t : Int) < m 1) : lnL (nm t) 7 0 = m (261 + 14 * t) ∧ ∀ i : Int, letV (nm t) i = if 0 ≤ i ∧ i ≤ m (261 + 14 * t) - 1 then m (265 + 14 * t + i).toNat else 0 := by
  obtain ⟨-, -, -, q1, q2, q3⟩ := hT t ht
  obtain ⟨a, ea⟩ : ∃ a : Nat, m (261 + 14 * t) = a := ⟨(m (261 + 14 * t)).toNat, by omega⟩
  have lt : ∀ j, 265 + 14 * t ≤ j → j < 265 + 14 * t + a → isLt (m j) := fun j h1 h2 => by
    have := q3 (j - (265 + 14 * t)) (by omega)
    rw [show 265 + 14 * t + (j - (265 + 14 * t)) = j by omega] at this; exact this
  rw [q1]
  unfold nmR
  rw [ea, show ((a : Int)).toNat = a by omega]
  refine ⟨?_, fun i => ?_⟩
  · rw [lnL_n lt ⟨by omega, by omega⟩ 7 0 (by omega) (by omega)]; omega
  · by_cases z : 0 ≤ i ∧ i < 7
    · obtain ⟨k, rfl⟩ : ∃ k : Nat, i = k := ⟨i.toNat, by omega⟩
      rw [letV_n lt (by omega)]
      by_cases w : k < a
      · rw [if_pos (by omega), if_pos ⟨by omega, by omega⟩]; congr 1
      · rw [if_neg (by omega), if_neg (by omega)]
    · rw [letV_o z, if_neg (by omega)]
end BN

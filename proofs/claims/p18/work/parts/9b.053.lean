section mg_9o
section OK
variable {z : Int} {f : Nat → Int}
theorem ok_val {q : PS} (h0 : 0 ≤ q.1) (hz : z ≤ 120) (he : q.2.1 = -1) : ok2 z (vlM z f (q.1, -1)) (vR f z q) := by
  have em : mnP q.1 z f = (minusF f z q).1 := by
    unfold mnP minusF
    rw [hereC_f h0 hz]
    by_cases c : hereF f z q.1 = 45
    · rw [if_pos c, b01_t c]
    · rw [if_neg c, b01_f c]; exact (Int.add_zero _).symm
  have e0 : (minusF f z q).2.1 = -1 := he
  have hm0 : 0 ≤ (minusF f z q).1 := by rw [← em]; unfold mnP; split <;> omega
  show ok2 z _ (nR f z 5 0 99999 (minusF f z q))
  have e1 := rfL_s (f := f) (n := 5) (q := minusF f z q) hm0 hz
  have ev := numL_v (f := f) (z := z) 5 ((minusF f z q).1, (minusF f z q).2.1, 0, (minusF f z q).2.2.2) (Int.le_refl _)
  have et : (((minusF f z q).1, (minusF f z q).2.1, (0 : Int), (minusF f z q).2.2.2) : PS).2.2.1 = 0 := rfl
  rw [et, show ((0 : Int) + 1) * tenP 5 = 100000 by decide] at ev
  cases hR : (nR f z 5 0 99999 (minusF f z q)).1 with
  | true =>
    obtain ⟨a, b, c, d⟩ := nR_y hR
    refine Or.inl ⟨hR, ?_, by rw [b, numL_e]; exact e0⟩
    unfold vlM; dsimp only
    rw [em, e1, if_pos (nR_1 (n := 4) (l := 0) (m := 99) hm0 a), b]
  | false =>
    have b := nR_f e0 hR
    refine Or.inr ⟨hR, ?_, by omega⟩
    have hb : ¬ numberB f z 5 0 99999 (minusF f z q) := by
      have : decide (numberB f z 5 0 99999 (minusF f z q)) = false := hR
      exact of_decide_eq_false this
    have hd : ¬ (48 ≤ hereF f z (minusF f z q).1 ∧ hereF f z (minusF f z q).1 ≤ 57) := fun c => hb ⟨c, by omega⟩
    unfold vlM; dsimp only
    rw [em, rfL_0 hm0 hz hd, if_neg (by dsimp only; omega), b, ftE_n]
end OK
end mg_9o

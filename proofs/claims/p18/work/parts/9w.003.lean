section mg_9x
section ORD
variable {P P' : Int → Prop} {st st' : Int → Int} {top top' : Int} {f : Nat → Int} {Z : Nat}
theorem dr_hi {v : Int} {j0 : Nat} (hj : f j0 = v) (hu : ∀ j, j < Z → f j = v → j = j0) : ∀ n, j0 < n → n ≤ Z → cnt (notB v f) n + 1 = n ∧ ∀ q, drA v f n q = if q < j0 then f q else if q + 1 < n then f (q + 1) else f q
  | 0, h, _ => by omega
  | n + 1, h, hz => by
    by_cases c : j0 = n
    · subst c
      obtain ⟨a, b⟩ := dr_lo (v := v) (f := f) j0 (fun j hj2 g => by have := hu j (by omega) g; omega)
      have e : notB v f j0 = false := decide_eq_false (fun g => g hj)
      constructor
      · rw [cnt_S, e, a, if_neg (by decide)]; omega
      · intro q
        show (if f j0 = v then drA v f j0 else updI (drA v f j0) (cnt (notB v f) j0).toNat (f j0)) q = _
        rw [if_pos hj, b]
        by_cases g : q < j0
        · rw [if_pos g]
        · rw [if_neg g, if_neg (by omega)]
    · obtain ⟨a, b⟩ := dr_hi hj hu n (by omega) (by omega)
      have hn : ¬ f n = v := fun g => c (hu n (by omega) g).symm
      have e : notB v f n = true := decide_eq_true hn
      have e2 : (cnt (notB v f) n).toNat = n - 1 := by omega
      constructor
      · rw [cnt_S, e, if_pos rfl]; omega
      · intro q
        show (if f n = v then drA v f n else updI (drA v f n) (cnt (notB v f) n).toNat (f n)) q = _
        rw [if_neg hn, e2]
        by_cases g : q = n - 1
        · subst g
          rw [updI_s, if_neg (by omega), if_pos (by omega)]
          congr 1; omega
        · rw [updI_n g, b]
          by_cases g2 : q < j0
          · rw [if_pos g2, if_pos g2]
          · rw [if_neg g2, if_neg g2]
            by_cases g3 : q + 1 < n
            · rw [if_pos g3, if_pos (by omega)]
            · rw [if_neg g3, if_neg (by omega)]
end ORD
end mg_9x

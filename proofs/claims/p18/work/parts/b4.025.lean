section mg_c0
theorem nmR_lt {m : Nat → Int} {t o : Nat} (ht : nmOk m t) (ho : nmOk m o) : (nmR m t).toInt < (nmR m o).toInt ↔ agT m t o < 0 := by
  obtain ⟨ht1, ht2⟩ := ht
  obtain ⟨ho1, ho2⟩ := ho
  obtain ⟨a, ea⟩ : ∃ a : Nat, m (261 + 14 * t) = a := ⟨(m (261 + 14 * t)).toNat, by omega⟩
  obtain ⟨b, eb⟩ : ∃ b : Nat, m (261 + 14 * o) = b := ⟨(m (261 + 14 * o)).toNat, by omega⟩
  have lt : ∀ j, 265 + 14 * t ≤ j → j < 265 + 14 * t + a → isLt (m j) := fun j h1 h2 => by
    have := ht2 (j - (265 + 14 * t)) (by omega)
    rw [show 265 + 14 * t + (j - (265 + 14 * t)) = j by omega] at this; exact this
  have lo : ∀ j, 265 + 14 * o ≤ j → j < 265 + 14 * o + b → isLt (m j) := fun j h1 h2 => by
    have := ho2 (j - (265 + 14 * o)) (by omega)
    rw [show 265 + 14 * o + (j - (265 + 14 * o)) = j by omega] at this; exact this
  have bt := nmN_b lt
  have bo := nmN_b lo
  unfold nmR nmY
  rw [ea, eb, show ((a : Int)).toNat = a by omega, show ((b : Int)).toNat = b by omega, pf_lI (Nat.lt_of_lt_of_le bt (by decide)), pf_lI (Nat.lt_of_lt_of_le bo (by decide))]
  unfold agT agV
  rw [ea, eb, ag_lt _ 0 (fun i hi => absurd hi (Nat.not_lt_zero _)), Nat.zero_add, lex_cd (x := fun i => m (265 + 14 * t + i)) (y := fun i => m (265 + 14 * o + i)) (by omega) (by omega) (fun j hj => lt _ (by omega) (by omega)) (fun j hj => lo _ (by omega) (by omega)) (gx := nmG m (265 + 14 * t) (265 + 14 * t + a)) (gy := nmG m (265 + 14 * o) (265 + 14 * o + b)) (fun j hj => by
    unfold nmG
    by_cases z : j < a
    · rw [if_pos (by omega), if_pos z]
    · rw [if_neg (by omega), if_neg z]) (fun j hj => by
    unfold nmG
    by_cases z : j < b
    · rw [if_pos (by omega), if_pos z]
    · rw [if_neg (by omega), if_neg z]), ← cdN_l (nmG_b lt) (nmG_b lo) 7]
  unfold nmN
  omega
end mg_c0

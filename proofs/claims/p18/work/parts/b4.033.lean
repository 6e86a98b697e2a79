section mg_c2
section PN
variable {m c f : Nat → Int} {N C K Z : Nat}
/-- the plan -/
theorem plan_both (hE : ∀ a : Nat, entE m c f N K Z a) (hN : m 1 = (N : Int)) (hK : m 0 = (K : Int)) (hp : parI m K) (hsc : ∀ j, j < Z → 100 ≤ f j → 100 < f j) (hinj : ∀ j k, j < k → k < Z → ¬ f j = f k) (hZ : Z ≤ 150) (h60 : K ≤ 60) {s : Nat} (hs : s < K) {p p' : Nat → Int} {k' n : Nat} (h : plR m n s p 0 p' k') {i : Int} : pcL c f Z s i 1000000 s ((Z : Int) - 1) 0 = planV p' k' i := by
  obtain ⟨R, r1, r2, r3, r4⟩ := pc_all hE hN hK hp hsc hinj (s0 := s) n s p 0 p' k' hs (Nat.le_refl _) h
  have v : visN m N K s (m 6 + 1) ≤ 60 := by
    have := (cnt_r (fun x => bP (vis m N K s (m 6 + 1) x)) K).2
    unfold visN; omega
  have v0 : 0 ≤ visN m N K s (m 6 + 1) := (cnt_r _ _).1
  have zb : ((Z : Int) + 2) * visN m N K s (m 6 + 1) ≤ 152 * 60 := Int.mul_le_mul (by omega) v v0 (by decide)
  have e : (1000000 : Nat) = R + (1000000 - R - 1 + 1) := by omega
  have y := r4 i (1000000 - R - 1 + 1)
  rw [← e] at y
  have y0 : ((0 : Nat) : Int) = 0 := rfl
  rw [y0] at y
  rw [y]
  have fin : pcL c f Z s i (1000000 - R - 1 + 1) s (-1) k' = if i = -1 then (k' : Int) else -1 := by
    show (if (-1 : Int) < 0 then (if (s : Int) = s then (if i = -1 then (k' : Int) else -1) else _) else _) = _
    rw [if_pos (by decide), if_pos rfl]
  rw [fin]
  unfold planV
  by_cases w : (0 : Int) ≤ i ∧ i < k'
  · rw [if_pos w, if_pos ⟨by omega, by omega⟩, if_neg (by omega)]
  · rw [if_neg w]
    by_cases z : i = -1
    · rw [if_pos z, if_pos ⟨by omega, by omega⟩, if_pos (by omega)]
    · rw [if_neg z, if_neg (by omega)]
end PN
end mg_c2

section mg_a6
section SH2
variable {G : mG} {l : Launch} {r : Nat} {b : Int} {pool : Nat → Int} {S : Nat → Option mO} {h0 : mH} {n : Nat}
/-- how many are open, when one's state changes -/
theorem cnt_open {m : Nat → Int} {s N : Nat} {v : Int} (hs : s < N) : cnt (openB (updI m (18 + 4 * s) v)) N = cnt (openB m) N - (if m (18 + 4 * s) = 0 then 1 else 0) + (if v = 0 then 1 else 0) := by
  have ne : ∀ q, ¬ q = s → openB (updI m (18 + 4 * s) v) q = openB m q := fun q hq => by unfold openB; rw [updI_n (by omega)]
  by_cases a : m (18 + 4 * s) = 0
  · have p1 : openB m s = true := decide_eq_true a
    rw [if_pos a]
    by_cases c : v = 0
    · have ee : cnt (openB (updI m (18 + 4 * s) v)) N = cnt (openB m) N := cnt_congr N (fun q hq => by
        by_cases w : q = s
        · rw [w, p1]; show decide (updI m (18 + 4 * s) v (18 + 4 * s) = 0) = true; rw [updI_s]; exact decide_eq_true c
        · exact ne q w)
      rw [if_pos c, ee]
      omega
    · rw [if_neg c]
      have p2 : openB (updI m (18 + 4 * s) v) s = false := by unfold openB; rw [updI_s]; exact decide_eq_false c
      have y := cnt_upd (p := openB (updI m (18 + 4 * s) v)) (p' := openB m) (M := N) p2 p1 (fun q _ hq => ne q hq) N (Nat.le_refl _)
      rw [if_pos hs] at y
      omega
  · have p1 : openB m s = false := decide_eq_false a
    rw [if_neg a]
    by_cases c : v = 0
    · rw [if_pos c]
      have p2 : openB (updI m (18 + 4 * s) v) s = true := by unfold openB; rw [updI_s]; exact decide_eq_true c
      have y := cnt_upd (p := openB m) (p' := openB (updI m (18 + 4 * s) v)) (M := N) p1 p2 (fun q _ hq => (ne q hq).symm) N (Nat.le_refl _)
      rw [if_pos hs] at y
      omega
    · have ee : cnt (openB (updI m (18 + 4 * s) v)) N = cnt (openB m) N := cnt_congr N (fun q hq => by
        by_cases w : q = s
        · rw [w, p1]; show decide (updI m (18 + 4 * s) v (18 + 4 * s) = 0) = false; rw [updI_s]; exact decide_eq_false c
        · exact ne q w)
      rw [if_neg c, ee]
      omega
end SH2
end mg_a6

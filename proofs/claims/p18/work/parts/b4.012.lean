section mg_b7
theorem cnt_im {f : Nat → Int} {N C Z : Nat} {Q : Int → Bool} (hN : N ≤ 100) (hr : ∀ j, j < Z → (∃ t : Nat, t < N ∧ f j = t) ∨ (∃ s : Nat, s < C ∧ f j = 100 + (s : Int))) (hi : ∀ j k, j < k → k < Z → ¬ f j = f k) : ∀ n, n ≤ Z → cnt (fun j => Q (f j)) n = cnt (fun t => Q (t : Int) && imB f n t) N + cnt (fun s => Q (100 + (s : Int)) && imB f n (100 + (s : Int))) C
  | 0, _ => by
    rw [cnt_zero (p := fun t => Q (t : Int) && imB f 0 t) N (fun j _ => Bool.and_false _), cnt_zero (p := fun s => Q (100 + (s : Int)) && imB f 0 (100 + (s : Int))) C (fun j _ => Bool.and_false _)]
    rfl
  | n + 1, hn => by
    have ih := cnt_im (Q := Q) hN hr hi n (by omega)
    have new : imB f n (f n) = false := by
      rw [← Bool.not_eq_true]
      intro g
      obtain ⟨j, a, b⟩ := (im_iff n).mp g
      exact hi j n a (by omega) b
    have at' : ∀ e, ¬ f n = e → imB f (n + 1) e = imB f n e := fun e he => by
      show (imB f n e || decide (f n = e)) = imB f n e
      rw [decide_eq_false he, Bool.or_false]
    have at1 : imB f (n + 1) (f n) = true := by
      show (imB f n (f n) || decide (f n = f n)) = true
      rw [decide_eq_true rfl, Bool.or_true]
    rw [cnt_S]
    by_cases q : Q (f n) = true
    · rw [if_pos q, ih]
      rcases hr n (by omega) with ⟨t, ht, e⟩ | ⟨t, ht, e⟩
      · have y := cnt_upd (p := fun t => Q (t : Int) && imB f n t) (p' := fun t => Q (t : Int) && imB f (n + 1) t) (t := t) (M := N) (by show (Q (t : Int) && imB f n t) = false; rw [← e, new, Bool.and_false]) (by show (Q (t : Int) && imB f (n + 1) t) = true; rw [← e, at1, q]; rfl) (fun u _ hu => by show (Q (u : Int) && imB f n u) = (Q (u : Int) && imB f (n + 1) u); rw [at' u (by omega)]) N (Nat.le_refl _)
        have y2 : cnt (fun s => Q (100 + (s : Int)) && imB f (n + 1) (100 + (s : Int))) C = cnt (fun s => Q (100 + (s : Int)) && imB f n (100 + (s : Int))) C := cnt_congr _ (fun u _ => by show (Q (100 + (u : Int)) && imB f (n + 1) (100 + (u : Int))) = _; rw [at' _ (by omega)])
        rw [if_pos ht] at y
        rw [y, y2]; omega
      · have y := cnt_upd (p := fun s => Q (100 + (s : Int)) && imB f n (100 + (s : Int))) (p' := fun s => Q (100 + (s : Int)) && imB f (n + 1) (100 + (s : Int))) (t := t) (M := C) (by show (Q (100 + (t : Int)) && imB f n (100 + (t : Int))) = false; rw [← e, new, Bool.and_false]) (by show (Q (100 + (t : Int)) && imB f (n + 1) (100 + (t : Int))) = true; rw [← e, at1, q]; rfl) (fun u _ hu => by show (Q (100 + (u : Int)) && imB f n (100 + (u : Int))) = (Q (100 + (u : Int)) && imB f (n + 1) (100 + (u : Int))); rw [at' _ (by omega)]) C (Nat.le_refl _)
        have y2 : cnt (fun t => Q (t : Int) && imB f (n + 1) t) N = cnt (fun t => Q (t : Int) && imB f n t) N := cnt_congr _ (fun u hu => by show (Q (u : Int) && imB f (n + 1) u) = _; rw [at' _ (by omega)])
        rw [if_pos ht] at y
        rw [y, y2]; omega
    · have y1 : cnt (fun t => Q (t : Int) && imB f (n + 1) t) N = cnt (fun t => Q (t : Int) && imB f n t) N := cnt_congr _ (fun u hu => by
        show (Q (u : Int) && imB f (n + 1) u) = (Q (u : Int) && imB f n u)
        by_cases z : f n = (u : Int)
        · rw [← z, Bool.eq_false_iff.mpr q, Bool.false_and, Bool.false_and]
        · rw [at' _ z])
      have y2 : cnt (fun s => Q (100 + (s : Int)) && imB f (n + 1) (100 + (s : Int))) C = cnt (fun s => Q (100 + (s : Int)) && imB f n (100 + (s : Int))) C := cnt_congr _ (fun u hu => by
        show (Q (100 + (u : Int)) && imB f (n + 1) (100 + (u : Int))) = (Q (100 + (u : Int)) && imB f n (100 + (u : Int)))
        by_cases z : f n = 100 + (u : Int)
        · rw [← z, Bool.eq_false_iff.mpr q, Bool.false_and, Bool.false_and]
        · rw [at' _ z])
      rw [if_neg q, ih, y1, y2]; omega
end mg_b7

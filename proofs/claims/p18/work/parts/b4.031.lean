section mg_c2
section PN
variable {m c f : Nat → Int} {N C K Z : Nat}
theorem pc_loop (hE : ∀ a : Nat, entE m c f N K Z a) (hN : m 1 = (N : Int)) (hK : m 0 = (K : Int)) (hp : parI m K) (hsc : ∀ j, j < Z → 100 ≤ f j → 100 < f j) (hinj : ∀ j k, j < k → k < Z → ¬ f j = f k) {s0 : Nat} {n s : Nat} (hs : s < K) (h0 : s0 ≤ s)
    (hpl : ∀ (a : Nat) p k p' k', s < a → a < K → plR m n a p k p' k' → ∃ R : Nat, (R : Int) ≤ Z + (Z + 2) * visN m N K a (m 6 + 1) ∧ PCS c f Z s0 a Z k k' p p' R) :
    ∀ (j : Nat) (e : Int) (p : Nat → Int) (k : Nat) (p' : Nat → Int) (k' : Nat) (P : Nat) (st : Int), P ≤ Z → (∀ j, j < Z → enB c f s j = true → (stampI m (f j) < st ↔ j < P)) → e = eaI m s st → plLR (plR m n) m s j e p k p' k' → ∃ R : Nat, (R : Int) ≤ P + (Z + 2) * visN m N K s st ∧ PCS c f Z s0 s P k k' p p' R
  | j, e, p, k, p', k', P, st, hPZ, hst, he, hL => by
    have eN : (m 1).toNat = N := by omega
    have eK : (m 0).toNat = K := by omega
    unfold eaI at he
    rw [eN, eK] at he
    have v0 : 0 ≤ visN m N K s st := (cnt_r _ _).1
    have zv : 0 ≤ (Z + 2) * visN m N K s st := Int.mul_nonneg (by omega) v0
    rcases ea_next (hE s) hPZ hst with ⟨x, no⟩ | ⟨q, q1, q2, q3, no⟩
    · have hh : p' = p ∧ k' = k := by
        cases j with
        | zero => exact hL.2
        | succ j =>
          rcases hL with ⟨-, y⟩ | ⟨y, -⟩ | ⟨y, -⟩
          · exact y
          · omega
          · omega
      obtain ⟨rfl, rfl⟩ := hh
      refine ⟨P, by omega, Nat.le_refl _, fun _ _ => rfl, fun i M => ?_⟩
      rw [pc_scan P M (Nat.le_refl _) (fun j _ b => no j b), if_neg (by omega), show (P : Int) - P - 1 = -1 by omega]
    · rw [q3] at he
      have fq := (hE s).1 q (by omega)
      have ow : ownF c (f q) = s := of_decide_eq_true q2
      have scan : ∀ i M, pcL c f Z s0 i (P - 1 - q + M) s ((P : Int) - 1) k = pcL c f Z s0 i M s (q : Int) k := fun i M => by
        rw [pc_scan (P - 1 - q) M (by omega) (fun j a b => no j (by omega) b), show (P : Int) - ((P - 1 - q : Nat) : Int) - 1 = (q : Int) by omega]
      have hst2 : ∀ j, j < Z → enB c f s j = true → (stampI m (f j) < stampI m e ↔ j < q) := fun j hj _ => by
        rw [he]
        constructor
        · intro w
          rcases Nat.lt_trichotomy j q with y | y | y
          · exact y
          · subst y; omega
          · have := (hE s).2.1 q j y hj; omega
        · intro w; exact (hE s).2.1 j q w (by omega)
      have lt := (hst q (by omega) q2).mpr q1
      have ent := (hE s).2.2.1 q (by omega) q2
      have vm := vis_mono (m := m) (N := N) (C := K) (s := s) (st := stampI m e) (st' := st) (by rw [he]; omega)
      cases j with
      | zero => have := hL.1; omega
      | succ j =>
        rcases hL with ⟨y, -⟩ | ⟨y, -, hL⟩ | ⟨y, p1, k1, ha, hL⟩
        · omega
        · obtain ⟨R, r1, r2, r3, r4⟩ := pc_loop hE hN hK hp hsc hinj hs h0 hpl j _ _ _ _ _ q (stampI m e) (by omega) hst2 rfl hL
          have zm : (Z + 2) * visN m N K s (stampI m e) ≤ (Z + 2) * visN m N K s st := Int.mul_le_mul_of_nonneg_left vm (by omega)
          refine ⟨P - 1 - q + (1 + R), by omega, by omega, fun u hu => by rw [r3 u (by omega), updI_n (by omega)], fun i M => ?_⟩
          rw [show P - 1 - q + (1 + R) + M = P - 1 - q + (R + M + 1) by omega, scan]
          show (if (q : Int) < 0 then _ else if ¬ ownF c (f ((q : Int)).toNat) = s then _ else if 100 ≤ f ((q : Int)).toNat then _ else if (k : Int) = i then f ((q : Int)).toNat else pcL c f Z s0 i (R + M) s ((q : Int) - 1) ((k : Int) + 1)) = _
          rw [show ((q : Int)).toNat = q by omega, if_neg (by omega), if_neg (fun g => g ow), if_neg (by omega)]
          by_cases w : (k : Int) = i
          · rw [if_pos w, if_pos ⟨by omega, by omega⟩, show i.toNat = k by omega, r3 k (by omega), updI_s, he]
          · rw [if_neg w]
            have y2 := r4 i M
            rw [show ((k + 1 : Nat) : Int) = (k : Int) + 1 by omega] at y2
            rw [y2]
            by_cases w2 : (k : Int) + 1 ≤ i ∧ i < k'
            · rw [if_pos w2, if_pos ⟨by omega, w2.2⟩]
            · rw [if_neg w2, if_neg (by omega)]
        · have big := hsc q (by omega) (by omega)
          obtain ⟨a, ea⟩ : ∃ a : Nat, f q = 100 + (a : Int) := ⟨(f q - 100).toNat, by omega⟩
          have ent2 : entryP m N K s (100 + a) := by rw [ea, show (100 + (a : Int)).toNat = 100 + a by omega] at ent; exact ent
          have par : a < K ∧ m (19 + 4 * a) = s := by
            rcases entP_c ent2 with ⟨b, -⟩ | ⟨b1, b2, b3⟩
            · omega
            · rw [show 100 + a - 100 = a by omega] at b3; exact ⟨by omega, b3⟩
          have pa := hp a par.1
          rw [par.2] at pa
          rw [show e - 100 = (a : Int) by omega] at ha
          obtain ⟨Ra, ra1, ra2, ra3, ra4⟩ := hpl a _ _ _ _ (by omega) par.1 ha
          obtain ⟨R, r1, r2, r3, r4⟩ := pc_loop hE hN hK hp hsc hinj hs h0 hpl j _ _ _ _ _ q (stampI m e) (by omega) hst2 rfl hL
          have sp := vis_split (st := st) hp hs (show 100 < 100 + a by omega) ent2 (by rw [stV_I, show ((100 + a : Nat) : Int) = f q by omega]; exact lt)
          rw [stV_I, show ((100 + a : Nat) : Int) = e by omega, show 100 + a - 100 = a by omega] at sp
          have vi := vis_in (N := N) (st := m 6 + 1) hp par.1
          have zm : (Z + 2) * (visN m N K s (stampI m e) + (visN m N K a (m 6 + 1) + 1)) ≤ (Z + 2) * visN m N K s st := Int.mul_le_mul_of_nonneg_left (by omega) (by omega)
          rw [Int.mul_add, Int.mul_add] at zm
          refine ⟨P - 1 - q + (1 + (Ra + (1 + R))), by omega, by omega, fun u hu => by rw [r3 u (by omega), ra3 u hu], fun i M => ?_⟩
          rw [show P - 1 - q + (1 + (Ra + (1 + R))) + M = P - 1 - q + (Ra + (R + M + 1) + 1) by omega, scan]
          show (if (q : Int) < 0 then _ else if ¬ ownF c (f ((q : Int)).toNat) = s then _ else if 100 ≤ f ((q : Int)).toNat then pcL c f Z s0 i (Ra + (R + M + 1)) (f ((q : Int)).toNat - 100) ((Z : Int) - 1) k else _) = _
          rw [show ((q : Int)).toNat = q by omega, if_neg (by omega), if_neg (fun g => g ow), if_pos (by omega), show f q - 100 = (a : Int) by omega, ra4 i (R + M + 1)]
          by_cases w : (k : Int) ≤ i ∧ i < k1
          · rw [if_pos w, if_pos ⟨w.1, by omega⟩, r3 i.toNat (by omega)]
          · rw [if_neg w]
            show (if (-1 : Int) < 0 then (if (a : Int) = s0 then _ else pcL c f Z s0 i (R + M) (ownF c (100 + (a : Int))) (peL f (100 + (a : Int)) Z 0 - 1) k1) else _) = _
            rw [if_pos (by decide), if_neg (by omega), ← ea, ow, pe_at rfl (fun j hj g => hinj j q hj (by omega) g) Z 0 (Nat.zero_le _) (by omega), r4 i M]
            by_cases w2 : (k1 : Int) ≤ i ∧ i < k'
            · rw [if_pos w2, if_pos ⟨by omega, w2.2⟩]
            · rw [if_neg w2, if_neg (by omega)]
end PN
end mg_c2

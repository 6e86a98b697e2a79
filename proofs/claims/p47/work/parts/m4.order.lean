/-! ===== those that are held, by names: the i-th is there, and they rise ===== -/
section M4
variable {m : Nat → Int} {N : Nat} {S : Nat → Bool} {ky : Nat → Int}
def rkB (S : Nat → Bool) (ky : Nat → Int) (t o : Nat) : Bool := S o && decide (ky o < ky t)
theorem mx_ex (hi : ∀ a b, a < N → b < N → S a = true → S b = true → ky a = ky b → a = b) : ∀ n, n ≤ N → (∃ j, j < n ∧ S j = true) → ∃ u, u < n ∧ S u = true ∧ ∀ o, o < n → S o = true → ¬ o = u → ky o < ky u
  | 0, _, h => by obtain ⟨j, hj, -⟩ := h; omega
  | n + 1, hn, h => by
    by_cases c : ∃ j, j < n ∧ S j = true
    · obtain ⟨u, h1, h2, h3⟩ := mx_ex hi n (by omega) c
      cases e : S n with
      | false =>
        refine ⟨u, by omega, h2, fun o ho hs hne => ?_⟩
        by_cases on : o = n
        · rw [on, e] at hs; cases hs
        · exact h3 o (by omega) hs hne
      | true =>
        by_cases k : ky u < ky n
        · refine ⟨n, by omega, e, fun o ho hs hne => ?_⟩
          by_cases ou : o = u
          · rw [ou]; exact k
          · have := h3 o (by omega) hs ou; omega
        · refine ⟨u, by omega, h2, fun o ho hs hne => ?_⟩
          by_cases on : o = n
          · subst on
            have : ¬ ky o = ky u := fun z => hne (hi o u (by omega) (by omega) hs h2 z)
            omega
          · exact h3 o (by omega) hs hne
    · obtain ⟨j, hj, hs⟩ := h
      have jn : j = n := by
        by_cases z : j = n
        · exact z
        · exact absurd ⟨j, by omega, hs⟩ c
      subst jn
      refine ⟨j, by omega, hs, fun o ho hs2 hne => absurd ⟨o, by omega, hs2⟩ c⟩
theorem rk_max {u : Nat} (hu : u < N) (h1 : S u = true) (h2 : ∀ o, o < N → S o = true → ¬ o = u → ky o < ky u) : cnt (rkB S ky u) N = cnt S N - 1 := by
  have := cnt_upd (p := rkB S ky u) (p' := S) (t := u) (M := N) (by unfold rkB; rw [decide_eq_false (Int.lt_irrefl _), Bool.and_false]) h1 (fun q hq hne => by
    unfold rkB
    cases e : S q with
    | false => rfl
    | true => rw [decide_eq_true (h2 q hq e hne)]; rfl) N (Nat.le_refl _)
  rw [if_pos hu] at this
  omega
theorem cnt_pos {p : Nat → Bool} {n : Nat} (h : 1 ≤ cnt p n) : ∃ j, j < n ∧ p j = true := by
  obtain ⟨j, h1, h2, -⟩ := cnt_at (P := p) (k := 0) (Int.le_refl _) n (by omega)
  exact ⟨j, h1, h2⟩
theorem rk_ex (hi : ∀ a b, a < N → b < N → S a = true → S b = true → ky a = ky b → a = b) : ∀ d : Nat, (d : Int) < cnt S N → ∃ t, t < N ∧ S t = true ∧ cnt (rkB S ky t) N = cnt S N - 1 - d
  | 0, h => by
    obtain ⟨u, h1, h2, h3⟩ := mx_ex hi N (Nat.le_refl _) (cnt_pos (by omega))
    exact ⟨u, h1, h2, by rw [rk_max h1 h2 h3]; omega⟩
  | d + 1, h => by
    obtain ⟨t, h1, h2, h3⟩ := rk_ex hi d (by omega)
    obtain ⟨u, g1, g2, g3⟩ := mx_ex (S := rkB S ky t) (ky := ky) (fun a b ha hb sa sb e => hi a b ha hb (by unfold rkB at sa; rw [Bool.and_eq_true] at sa; exact sa.1) (by unfold rkB at sb; rw [Bool.and_eq_true] at sb; exact sb.1) e) N (Nat.le_refl _) (cnt_pos (by omega))
    have g4 := rk_max g1 g2 g3
    unfold rkB at g2
    rw [Bool.and_eq_true] at g2
    have g5 := of_decide_eq_true g2.2
    refine ⟨u, g1, g2.1, ?_⟩
    have e : cnt (rkB S ky u) N = cnt (rkB (rkB S ky t) ky u) N := cnt_congr N (fun q hq => by
      unfold rkB
      cases e : S q with
      | false => rfl
      | true =>
        by_cases z : ky q < ky u
        · rw [decide_eq_true z, decide_eq_true (show ky q < ky t by omega)]; rfl
        · rw [decide_eq_false z, Bool.and_false, Bool.and_false])
    rw [e, g4, h3]
    omega
theorem rk_lt {t u : Nat} (ht : t < N) (hs : S t = true) (h : ky t < ky u) : cnt (rkB S ky t) N < cnt (rkB S ky u) N := by
  have q := cnt_upd (p := fun o => rkB S ky u o && decide (¬ o = t)) (p' := rkB S ky u) (t := t) (M := N) (by show (_ && decide (¬ t = t)) = false; rw [decide_eq_false (fun z => z rfl), Bool.and_false]) (by unfold rkB; rw [hs, decide_eq_true h]; rfl) (fun q hq hne => by show (_ && decide (¬ q = t)) = _; rw [decide_eq_true (show ¬ q = t from hne), Bool.and_true]) N (Nat.le_refl _)
  rw [if_pos ht] at q
  have z := cnt_le_of (p := fun o => rkB S ky u o && decide (¬ o = t)) (p' := rkB S ky t) (n := N) (fun o ho e => by
    unfold rkB at e
    rw [Bool.and_eq_true] at e
    have e2 := of_decide_eq_true e.2
    show (rkB S ky u o && decide (¬ o = t)) = true
    unfold rkB
    rw [e.1, decide_eq_true (show ky o < ky u by omega), decide_eq_true (show ¬ o = t from fun z => by rw [z] at e2; omega)]
    rfl)
  omega
/-! names -/
def kyR (m : Nat → Int) (t : Nat) : Int := (nmR m t).toInt
theorem agT_lex {t o : Nat} : agT m t o < 0 ↔ lexP (fun i => m (265 + 14 * t + i)) (fun i => m (265 + 14 * o + i)) (m (261 + 14 * t)) (m (261 + 14 * o)) (agN (m (261 + 14 * t)) (m (261 + 14 * o))) := by
  unfold agT agV
  have := ag_lt (m := m) (rc := m) (t := t) (fr := 265 + 14 * o) (a := m (261 + 14 * t)) (b := m (261 + 14 * o)) (agN (m (261 + 14 * t)) (m (261 + 14 * o))) 0 (fun i hi => absurd hi (Nat.not_lt_zero _))
  rw [Nat.zero_add] at this
  exact this
theorem lex_none {x y : Nat → Int} {a b : Int} {M : Nat} (h1 : ¬ lexP x y a b M) (h2 : ¬ lexP y x b a M) : (∀ i, i < M → x i = y i) ∧ a = b := by
  have e : ∀ j, j ≤ M → ∀ i, i < j → x i = y i := by
    intro j
    induction j with
    | zero => intro _ i hi; omega
    | succ j ih =>
      intro hj i hi
      by_cases z : i = j
      · subst z
        have g := ih (by omega)
        have a1 : ¬ x i < y i := fun z => h1 (Or.inl ⟨i, by omega, g, z⟩)
        have a2 : ¬ y i < x i := fun z => h2 (Or.inl ⟨i, by omega, fun k hk => (g k hk).symm, z⟩)
        omega
      · exact ih (by omega) i (by omega)
  have g := e M (Nat.le_refl _)
  have a1 : ¬ a < b := fun z => h1 (Or.inr ⟨g, z⟩)
  have a2 : ¬ b < a := fun z => h2 (Or.inr ⟨fun k hk => (g k hk).symm, z⟩)
  exact ⟨g, by omega⟩
theorem agN_c {a b : Int} : agN a b = agN b a := by unfold agN; (repeat' split) <;> omega
theorem ky_same {t u : Nat} (ht : nmOk m t) (hu : nmOk m u) (h : kyR m t = kyR m u) : sameN m t u := by
  unfold kyR at h
  have a1 : ¬ agT m t u < 0 := fun z => by have := (nmR_lt ht hu).mpr z; omega
  have a2 : ¬ agT m u t < 0 := fun z => by have := (nmR_lt hu ht).mpr z; omega
  rw [agT_lex] at a1 a2
  rw [agN_c] at a2
  obtain ⟨g1, g2⟩ := lex_none a1 a2
  refine ⟨g2, fun k hk => g1 k ?_⟩
  have := ht.1
  unfold agN
  rw [if_pos (by omega)]
  omega
theorem ky_inj (hj : JI m) (hN : (m 1).toNat = N) (hn : ∀ t : Nat, (t : Int) < m 1 → nmOk m t) : ∀ a b, a < N → b < N → heldB m a = true → heldB m b = true → kyR m a = kyR m b → a = b := by
  intro a b ha hb sa sb e
  have b1 := hj.1.2.1
  have s := ky_same (hn a (by omega)) (hn b (by omega)) e
  have s2 := ky_same (hn b (by omega)) (hn a (by omega)) e.symm
  have za := of_decide_eq_true sa
  have zb := of_decide_eq_true sb
  by_cases c : a < b
  · exact absurd s (hj.2.2.2.1 a b c (by omega) za zb)
  · by_cases c2 : b < a
    · exact absurd s2 (hj.2.2.2.1 b a c2 (by omega) zb za)
    · omega
theorem nmB_rk (hN : (m 1).toNat = N) (h1 : 0 ≤ m 1) (hn : ∀ t : Nat, (t : Int) < m 1 → nmOk m t) {t : Nat} (ht : t < N) : cnt (nmB m t) N = cnt (rkB (heldB m) (kyR m) t) N := cnt_congr N (fun o ho => by
  unfold nmB rkB kyR
  have z := nmR_lt (hn o (by omega)) (hn t (by omega))
  by_cases c : agT m o t < 0
  · rw [decide_eq_true c, decide_eq_true (z.mpr c)]
  · rw [decide_eq_false c, decide_eq_false (fun q => c (z.mp q))])
theorem bn_spec {i : Int} : ∀ n t, (bnL m N i n t = -1 ∧ ∀ j, t ≤ j → j < t + n → heldB m j = true → ¬ cnt (nmB m j) N = i) ∨ ∃ q : Nat, bnL m N i n t = q ∧ t ≤ q ∧ q < t + n ∧ heldB m q = true ∧ cnt (nmB m q) N = i
  | 0, t => Or.inl ⟨rfl, fun j h1 h2 => by omega⟩
  | n + 1, t => by
    unfold bnL
    by_cases c : heldB m t = true ∧ cnt (nmB m t) N = i
    · rw [if_pos c]; exact Or.inr ⟨t, rfl, by omega, by omega, c.1, c.2⟩
    · rw [if_neg c]
      rcases bn_spec (i := i) n (t + 1) with ⟨e, h⟩ | ⟨q, e, h1, h2, h3⟩
      · refine Or.inl ⟨e, fun j h1 h2 h3 h4 => ?_⟩
        by_cases jt : j = t
        · subst jt; exact c ⟨h3, h4⟩
        · exact h j (by omega) (by omega) h3 h4
      · exact Or.inr ⟨q, e, by omega, by omega, h3⟩
theorem byName_at (hj : JI m) (hN : (m 1).toNat = N) (hn : ∀ t : Nat, (t : Int) < m 1 → nmOk m t) {i : Int} (h : 0 ≤ i ∧ i < cnt (heldB m) N) : ∃ q : Nat, bnL m N i N 0 = q ∧ q < N ∧ heldB m q = true ∧ cnt (rkB (heldB m) (kyR m) q) N = i := by
  have b1 := hj.1.2.1
  rcases bn_spec (m := m) (N := N) (i := i) N 0 with ⟨e, z⟩ | ⟨q, e, h1, h2, h3, h4⟩
  · exfalso
    obtain ⟨t, t1, t2, t3⟩ := rk_ex (S := heldB m) (ky := kyR m) (ky_inj hj hN hn) (cnt (heldB m) N - 1 - i).toNat (by omega)
    exact z t (Nat.zero_le _) (by omega) t2 (by rw [nmB_rk hN (by omega) hn t1, t3]; omega)
  · exact ⟨q, e, by omega, h3, by rw [← nmB_rk hN (by omega) hn (by omega)]; exact h4⟩
theorem byName_no (hj : JI m) (hN : (m 1).toNat = N) (hn : ∀ t : Nat, (t : Int) < m 1 → nmOk m t) {i : Int} (h : i < 0 ∨ cnt (heldB m) N ≤ i) : bnL m N i N 0 = -1 := by
  have b1 := hj.1.2.1
  rcases bn_spec (m := m) (N := N) (i := i) N 0 with ⟨e, z⟩ | ⟨q, e, h1, h2, h3, h4⟩
  · exact e
  · exfalso
    rw [nmB_rk hN (by omega) hn (by omega)] at h4
    have r := cnt_r (rkB (heldB m) (kyR m) q) N
    have z := cnt_upd (p := fun o => heldB m o && decide (¬ o = q)) (p' := heldB m) (t := q) (M := N) (by show (_ && decide (¬ q = q)) = false; rw [decide_eq_false (fun z => z rfl), Bool.and_false]) h3 (fun o ho hne => by show (_ && decide (¬ o = q)) = _; rw [decide_eq_true (show ¬ o = q from hne), Bool.and_true]) N (Nat.le_refl _)
    rw [if_pos (by omega)] at z
    have y := cnt_le_of (p := fun o => heldB m o && decide (¬ o = q)) (p' := rkB (heldB m) (kyR m) q) (n := N) (fun o ho e => by
      unfold rkB at e
      rw [Bool.and_eq_true] at e
      have e2 := of_decide_eq_true e.2
      show (heldB m o && decide (¬ o = q)) = true
      rw [e.1, decide_eq_true (show ¬ o = q from fun z => by rw [z] at e2; omega)]
      rfl)
    omega
/-- one stands ahead of the next as words in a book -/
theorem byName_lex (hj : JI m) (hN : (m 1).toNat = N) (hn : ∀ t : Nat, (t : Int) < m 1 → nmOk m t) {a b : Nat} (ha : a < N) (hb : b < N) (sa : heldB m a = true) (sb : heldB m b = true) (h : cnt (rkB (heldB m) (kyR m) a) N < cnt (rkB (heldB m) (kyR m) b) N) : lexP (fun i => m (265 + 14 * a + i)) (fun i => m (265 + 14 * b + i)) (m (261 + 14 * a)) (m (261 + 14 * b)) (agN (m (261 + 14 * a)) (m (261 + 14 * b))) := by
  have b1 := hj.1.2.1
  rw [← agT_lex, ← nmR_lt (hn a (by omega)) (hn b (by omega))]
  show kyR m a < kyR m b
  by_cases c : kyR m a < kyR m b
  · exact c
  · exfalso
    by_cases c2 : kyR m b < kyR m a
    · have := rk_lt (N := N) (S := heldB m) (ky := kyR m) hb sb c2
      omega
    · have := ky_inj hj hN hn a b ha hb sa sb (by omega)
      subst this
      omega
end M4

/-! ===== such a text is read again whole: how many steps ===== -/
section SC
variable {sr : Nat → Int} {E : Nat}
def Sc (r : Bool × PS) (e : Nat) (o : Int) : Prop := r.1 = true ∧ r.2.1 = (e : Int) ∧ r.2.2.2.2.2 = o
theorem he_i {p : Nat} (h : p < E) : hereF sr (E : Int) (p : Int) = sr p := by
  unfold hereF
  rw [if_pos (by omega), Int.toNat_natCast]
theorem he_e {p : Nat} (h : E ≤ p) : hereF sr (E : Int) (p : Int) = -1 := by
  unfold hereF
  rw [if_neg (by omega)]
theorem he_n {p : Nat} {c : Int} (h : ¬ sr p = c) (hc : ¬ c = -1) : ¬ hereF sr (E : Int) (p : Int) = c := by
  by_cases g : p < E
  · rw [he_i g]; exact h
  · rw [he_e (by omega)]; exact fun z => hc z.symm
theorem he_nd {p : Nat} (h : ¬ dgP (sr p)) : ¬ (48 ≤ hereF sr (E : Int) (p : Int) ∧ hereF sr (E : Int) (p : Int) ≤ 57) := by
  by_cases g : p < E
  · rw [he_i g]; exact h
  · rw [he_e (by omega)]; decide
theorem he_nl {p : Nat} (h : ¬ isLt (sr p)) : ¬ (97 ≤ hereF sr (E : Int) (p : Int) ∧ hereF sr (E : Int) (p : Int) ≤ 122) := by
  by_cases g : p < E
  · rw [he_i g]; exact h
  · rw [he_e (by omega)]; decide
theorem numL_sc : ∀ (n p e : Nat) (q : PS), q.1 = (p : Int) → p ≤ e → e ≤ p + n → (∀ j, p ≤ j → j < e → dgP (sr j)) → ¬ dgP (sr e) → e ≤ E → (numL sr E n q).1 = (e : Int) ∧ (numL sr E n q).2.2.1 = naL sr n p q.2.2.1 ∧ (numL sr E n q).2.2.2.2 = q.2.2.2.2
  | 0, p, e, q, hq, h1, h2, _, _, _ => by
    obtain rfl : e = p := by omega
    exact ⟨hq, rfl, rfl⟩
  | n + 1, p, e, q, hq, h1, h2, hd, he, hE => by
    by_cases c : p = e
    · subst c
      have z : numL sr E (n + 1) q = q := by
        unfold numL
        rw [hq, if_neg (he_nd he)]
      rw [z, naL_0 he]
      exact ⟨hq, rfl, rfl⟩
    · have d := hd p (Nat.le_refl _) (by omega)
      have hp : hereF sr (E : Int) q.1 = sr p := by rw [hq, he_i (by omega)]
      have z : numL sr E (n + 1) q = numL sr E n (q.1 + 1, q.2.1, 10 * q.2.2.1 + sr p - 48, q.2.2.2) := by
        show (if 48 ≤ hereF sr (E : Int) q.1 ∧ hereF sr (E : Int) q.1 ≤ 57 then numL sr E n (q.1 + 1, q.2.1, 10 * q.2.2.1 + hereF sr (E : Int) q.1 - 48, q.2.2.2) else q) = _
        rw [hp]
        exact if_pos d
      obtain ⟨i1, i2, i3⟩ := numL_sc n (p + 1) e (q.1 + 1, q.2.1, 10 * q.2.2.1 + sr p - 48, q.2.2.2) (by show q.1 + 1 = _; omega) (by omega) (by omega) (fun j a b => hd j (by omega) b) he hE
      rw [z, naL_1 d]
      exact ⟨i1, i2, i3⟩
theorem nR_sc {n p e : Nat} {l m : Int} {q : PS} (hq : q.1 = (p : Int)) (h : numS sr p e n) (he : ¬ dgP (sr e)) (hE : e ≤ E) (hl : l ≤ naL sr n p 0) (hm : naL sr n p 0 ≤ m) : Sc (nR sr E n l m q) e q.2.2.2.2 := by
  obtain ⟨a1, a2, a3⟩ := numL_sc n p e (q.1, q.2.1, 0, q.2.2.2) hq (Nat.le_of_lt h.1) h.2.1 h.2.2 he hE
  dsimp only at a2 a3
  have hd : 48 ≤ hereF sr (E : Int) q.1 ∧ hereF sr (E : Int) q.1 ≤ 57 := by
    rw [hq, he_i (by have := h.1; omega)]
    exact h.2.2 p (Nat.le_refl _) h.1
  have hb : numberB sr E n l m q := ⟨hd, by rw [a2]; exact hl, by rw [a2]; exact hm⟩
  have e0 : (nR sr E n l m q).2 = numL sr E n (q.1, q.2.1, 0, q.2.2.2) := by
    show numberF sr E n l m q = _
    unfold numberF
    rw [if_pos hb.1]
    unfold finF
    rw [if_pos hb.2]
  refine ⟨decide_eq_true hb, ?_, ?_⟩
  · rw [e0]; exact a1
  · rw [e0]; exact a3
theorem vR_sc {p e : Nat} {q : PS} (hq : q.1 = (p : Int)) (h : sgnS sr p e) (he : ¬ dgP (sr e)) (hE : e ≤ E) : Sc (vR sr E q) e q.2.2.2.2 := by
  have t : tenP 5 = 100000 := rfl
  show Sc (nR sr E 5 0 99999 (minusF sr E q)) e q.2.2.2.2
  rcases h with ⟨h1, h2⟩ | h2
  · have y := naL_le (sr := sr) 5 (p + 1) 0 (by decide)
    exact nR_sc (p := p + 1) (q := minusF sr E q) (by
      show q.1 + b01 (hereF sr (E : Int) q.1 = 45) = _
      rw [hq, b01_t (by rw [he_i (by have := h2.1; omega)]; exact h1)]
      omega) h2 he hE y.1 (by omega)
  · have y := naL_le (sr := sr) 5 p 0 (by decide)
    have d := h2.2.2 p (Nat.le_refl _) h2.1
    unfold dgP at d
    exact nR_sc (p := p) (q := minusF sr E q) (by
      show q.1 + b01 (hereF sr (E : Int) q.1 = 45) = _
      rw [hq, b01_f (he_n (by omega) (by decide))]
      omega) h2 he hE y.1 (by omega)
theorem nameL_sc : ∀ (n p e : Nat) (q : PS), q.1 = (p : Int) → p ≤ e → e ≤ p + n → (∀ j, p ≤ j → j < e → isLt (sr j)) → (e = p + n ∨ ¬ isLt (sr e)) → e ≤ E → (nameL sr E n q).1 = (e : Int) ∧ (nameL sr E n q).2 = q.2
  | 0, p, e, q, hq, h1, h2, _, _, _ => by
    obtain rfl : e = p := by omega
    exact ⟨hq, rfl⟩
  | n + 1, p, e, q, hq, h1, h2, hd, he, hE => by
    by_cases c : p = e
    · subst c
      have z : nameL sr E (n + 1) q = q := by
        unfold nameL
        rw [hq, if_neg (he_nl (he.resolve_left (by omega)))]
      rw [z]
      exact ⟨hq, rfl⟩
    · have d := hd p (Nat.le_refl _) (by omega)
      have z : nameL sr E (n + 1) q = nameL sr E n (advF q) := by
        show (if 97 ≤ hereF sr (E : Int) q.1 ∧ hereF sr (E : Int) q.1 ≤ 122 then nameL sr E n (advF q) else q) = _
        rw [hq, he_i (by omega)]
        exact if_pos d
      rw [z]
      obtain ⟨i1, i2⟩ := nameL_sc n (p + 1) e (advF q) (by show q.1 + 1 = _; omega) (by omega) (by omega) (fun j a b => hd j (by omega) b) (he.imp (fun x => by omega) id) hE
      exact ⟨i1, i2⟩
theorem aR_sc {p e : Nat} {q : PS} (hq : q.1 = (p : Int)) (h : namS sr p e) (hE : e ≤ E) : Sc (aR sr E q) e q.2.2.2.2 := by
  obtain ⟨h1, h2, h3, h4⟩ := h
  have hb : nameB sr E q := by
    show 97 ≤ hereF sr (E : Int) q.1 ∧ hereF sr (E : Int) q.1 ≤ 122
    rw [hq, he_i (by omega)]
    exact h3 p (Nat.le_refl _) h1
  have e0 : (aR sr E q).2 = nameL sr E 7 q := by
    show nameF sr E q = _
    unfold nameF
    rw [if_pos hb]
  obtain ⟨i1, i2⟩ := nameL_sc (E := E) 7 p e q hq (Nat.le_of_lt h1) h2 h3 h4 hE
  refine ⟨decide_eq_true hb, ?_, ?_⟩
  · rw [e0]; exact i1
  · rw [e0, i2]
theorem gR_sc {p : Nat} {c : Int} {q : PS} (hq : q.1 = (p : Int)) (hp : p < E) (h : sr p = c) : Sc (gR sr E c q) (p + 1) q.2.2.2.2 := by
  have hb : hereF sr (E : Int) q.1 = c := by rw [hq, he_i hp, h]
  have e0 : (gR sr E c q).2 = advF q := by
    show signF sr E c q = _
    unfold signF
    rw [if_pos hb]
  refine ⟨decide_eq_true hb, ?_, ?_⟩
  · rw [e0]
    show q.1 + 1 = _
    omega
  · rw [e0]; rfl
theorem andR_sc {r : Bool × PS} {f : PS → Bool × PS} {e e2 : Nat} {o o2 : Int} (h : Sc r e o) (k : ∀ q : PS, q.1 = (e : Int) → q.2.2.2.2 = o → Sc (f q) e2 o2) : Sc (andR r f) e2 o2 := by
  unfold andR
  rw [if_pos h.1]
  exact k _ h.2.1 h.2.2
/-- no ! before a 0 -/
def BGv (sr : Nat → Int) (p e : Nat) : Prop := ∀ j, p ≤ j → j < e → sr j = 33 → 1 ≤ naL sr 2 (j + 1) 0
theorem bgO_v {e j : Nat} (h : bgO sr e j) : 1 ≤ naL sr 2 (j + 1) 0 := by
  have d1 : dgP (sr (j + 1)) := by unfold dgP; rcases h with h | h <;> omega
  rw [naL_1 (n := 1) d1]
  by_cases c : dgP (sr (j + 1 + 1))
  · rw [naL_1 (n := 0) c]
    show 1 ≤ 10 * (10 * 0 + sr (j + 1) - 48) + sr (j + 1 + 1) - 48
    unfold dgP at c d1
    rcases h with h | ⟨-, h1, h2, h3⟩
    · omega
    · rw [show j + 1 + 1 = j + 2 by omega]; omega
  · rw [naL_0 c]
    rcases h with h | ⟨-, h1, h2, h3⟩
    · omega
    · exact absurd (show dgP (sr (j + 1 + 1)) from (show 48 ≤ sr (j + 2) ∧ sr (j + 2) ≤ 57 by omega)) c
theorem takeG_sc {steps : PS → Bool × PS} {st : Nat → Nat → Prop} {w : Int} {q : PS} {p e : Nat} (hq : q.1 = (p : Int)) (hE : e ≤ E)
    (h : ∃ u, namS sr p u ∧ ((e = u ∧ ¬ sr u = 123) ∨ (sr u = 123 ∧ ∃ r, st (u + 1) r ∧ u + 1 ≤ r ∧ sr r = 125 ∧ e = r + 1)))
    (hs : ∀ u r : Nat, p ≤ u → sr u = 123 → namS sr p u → st (u + 1) r → u + 1 ≤ r → r < e → sr r = 125 → ¬ 2 < w ∧ ∀ q' : PS, q'.1 = ((u + 1 : Nat) : Int) → Sc (steps q') r q'.2.2.2.2) : Sc (takeG sr E steps w q) e q.2.2.2.2 := by
  obtain ⟨u, n, h⟩ := h
  unfold takeG
  have uE : u ≤ E := by rcases h with h | ⟨-, r, -, h1, -, h2⟩ <;> omega
  refine andR_sc (aR_sc hq n uE) (fun q' a b => ?_)
  rcases h with ⟨rfl, h⟩ | ⟨h, r, h1, h2, h3, rfl⟩
  · rw [a, if_neg (he_n h (by decide))]
    exact ⟨rfl, a, b⟩
  · obtain ⟨k1, k2⟩ := hs u r (Nat.le_of_lt n.1) h n h1 h2 (by omega) h3
    rw [a, he_i (by omega), if_pos h, if_neg k1]
    have y := k2 (advF q') (by show q'.1 + 1 = _; omega)
    have eo : (advF q').2.2.2.2 = q.2.2.2.2 := b
    rw [eo] at y
    refine andR_sc y (fun q2 c d => ?_)
    have z := gR_sc (sr := sr) (E := E) c (by omega) h3
    rw [d] at z
    exact z
theorem stepT_sc {take inner : PS → Bool × PS} {st : Nat → Nat → Prop} {it bh : Bool} {q : PS} {p e : Nat} (hq : q.1 = (p : Int)) (hE : e ≤ E) (he : ¬ dgP (sr e)) (hg : BGv sr p e) (k : stepT sr st p e)
    (ht : ∀ q' : PS, sr p = 97 → q'.1 = ((p + 1 : Nat) : Int) → (∃ u, namS sr (p + 1) u ∧ ((e = u ∧ ¬ sr u = 123) ∨ (sr u = 123 ∧ ∃ r, st (u + 1) r ∧ u + 1 ≤ r ∧ sr r = 125 ∧ e = r + 1))) → Sc (take q') e q'.2.2.2.2) : Sc (stepR sr E take inner it bh q) e q.2.2.2.2 := by
  have lt := stepT_lt k
  unfold stepR
  have hp : hereF sr (E : Int) q.1 = sr p := by rw [hq, he_i (by omega)]
  have ha : (advF q).1 = ((p + 1 : Nat) : Int) := by show q.1 + 1 = _; omega
  rw [hp]
  rcases k with ⟨c, c1, c2, c3⟩ | ⟨c, c1⟩ | ⟨c, c1⟩ | ⟨c, c1⟩ | ⟨c, u, c1, c2, c3⟩ | ⟨c, c1, rfl⟩ | ⟨c, rfl⟩
  · rw [if_pos (show stepOk (sr p) it bh q from Or.inl c), c]
    unfold stepG
    rw [if_pos rfl]
    have l := sgnS_lt c3
    have n1 : naL sr 1 (p + 1) 0 = 10 * 0 + sr (p + 1) - 48 := naL_1 (n := 0) (show dgP (sr (p + 1)) from ⟨c1.1, by omega⟩)
    have y := nR_sc (sr := sr) (E := E) (n := 1) (p := p + 1) (e := p + 2) (l := 0) (m := 7) ha ⟨by omega, by omega, fun j a b => by
      obtain rfl : j = p + 1 := by omega
      exact ⟨c1.1, by omega⟩⟩ (by rw [c2]; decide) (by omega) (by omega) (by omega)
    refine andR_sc (andR_sc y (fun q' a b => ?_)) (fun q' a b => ?_) (e := p + 3) (o := q.2.2.2.2)
    · have z := gR_sc (sr := sr) (E := E) a (by omega) c2
      rw [b] at z
      exact z
    · have z := vR_sc (E := E) a c3 he hE
      rw [b] at z
      exact z
  · rw [if_pos (show stepOk (sr p) it bh q from Or.inr (Or.inl c)), c]
    unfold stepG
    rw [if_neg (by decide), if_pos rfl]
    have y := naL_le (sr := sr) 2 (p + 1) 0 (by decide)
    have t : tenP 2 = 100 := rfl
    exact nR_sc ha c1 he hE (hg p (Nat.le_refl _) lt c) (by omega)
  · rw [if_pos (show stepOk (sr p) it bh q from Or.inr (Or.inr (Or.inl c))), c]
    unfold stepG
    rw [if_neg (by decide), if_neg (by decide), if_pos rfl]
    exact ht _ c ha c1
  · rw [if_pos (show stepOk (sr p) it bh q from Or.inr (Or.inr (Or.inr (Or.inl c)))), c]
    unfold stepG
    rw [if_neg (by decide), if_neg (by decide), if_neg (by decide), if_pos rfl]
    exact aR_sc ha c1 hE
  · rw [if_pos (show stepOk (sr p) it bh q from Or.inr (Or.inr (Or.inr (Or.inr (Or.inl c))))), c]
    unfold stepG
    rw [if_neg (by decide), if_neg (by decide), if_neg (by decide), if_neg (by decide), if_pos rfl]
    have l := c3.1
    refine andR_sc (andR_sc (aR_sc ha c1 (by omega)) (fun q' a b => ?_)) (fun q' a b => ?_) (e := u + 1) (o := q.2.2.2.2)
    · have z := gR_sc (sr := sr) (E := E) a (by omega) c2
      rw [b] at z
      exact z
    · have y := naL_le (sr := sr) 2 (u + 1) 0 (by decide)
      have t : tenP 2 = 100 := rfl
      have z := nR_sc (sr := sr) (E := E) (l := 0) (m := 99) a c3 he hE y.1 (by omega)
      rw [b] at z
      exact z
  · rw [if_pos (show stepOk (sr p) it bh q from Or.inr (Or.inr (Or.inr (Or.inr (Or.inr (Or.inl c)))))), c]
    unfold stepG
    rw [if_neg (by decide), if_neg (by decide), if_neg (by decide), if_neg (by decide), if_neg (by decide), if_pos rfl]
    have n1 : naL sr 1 (p + 1) 0 = 10 * 0 + sr (p + 1) - 48 := naL_1 (n := 0) c1
    have g := c1
    unfold dgP at g
    exact nR_sc ha ⟨by omega, by omega, fun j a b => by
      obtain rfl : j = p + 1 := by omega
      exact c1⟩ he hE (by omega) (by omega)
  · rw [if_pos (show stepOk (sr p) it bh q from Or.inr (Or.inr (Or.inr (Or.inr (Or.inr (Or.inr (Or.inl c))))))), c]
    unfold stepG
    rw [if_neg (by decide), if_neg (by decide), if_neg (by decide), if_neg (by decide), if_neg (by decide), if_neg (by decide), if_neg (by decide)]
    refine ⟨rfl, ha, ?_⟩
    show q.2.2.2.2 + (if (46 : Int) = 40 then 1 else if (46 : Int) = 41 then -1 else 0) = _
    rw [if_neg (by decide), if_neg (by decide), Int.add_zero]
theorem stepAsk_sc {take inner : PS → Bool × PS} {it : Bool} {q : PS} {p u e : Nat} (hq : q.1 = (p : Int)) (hE : u < E) (c : sr p = 63) (c1 : 48 ≤ sr (p + 1) ∧ sr (p + 1) ≤ 55) (c2 : sr (p + 2) = 60) (c3 : sgnS sr (p + 3) u) (c4 : sr u = 58)
    (hi : ∀ q' : PS, q'.1 = ((u + 1 : Nat) : Int) → Sc (inner q') e q'.2.2.2.2) : Sc (stepR sr E take inner it false q) e q.2.2.2.2 := by
  have l := sgnS_lt c3
  unfold stepR
  have hp : hereF sr (E : Int) q.1 = sr p := by rw [hq, he_i (by omega)]
  have ha : (advF q).1 = ((p + 1 : Nat) : Int) := by show q.1 + 1 = _; omega
  rw [hp, if_pos (show stepOk (sr p) it false q from Or.inr (Or.inr (Or.inr (Or.inr (Or.inr (Or.inr (Or.inr (Or.inl ⟨c, rfl⟩)))))))), c]
  unfold stepG
  rw [if_neg (by decide), if_neg (by decide), if_neg (by decide), if_neg (by decide), if_neg (by decide), if_neg (by decide), if_pos rfl]
  have n1 : naL sr 1 (p + 1) 0 = 10 * 0 + sr (p + 1) - 48 := naL_1 (n := 0) (show dgP (sr (p + 1)) from ⟨c1.1, by omega⟩)
  have y := nR_sc (sr := sr) (E := E) (n := 1) (p := p + 1) (e := p + 2) (l := 0) (m := 7) ha ⟨by omega, by omega, fun j a b => by
    obtain rfl : j = p + 1 := by omega
    exact ⟨c1.1, by omega⟩⟩ (by rw [c2]; decide) (by omega) (by omega) (by omega)
  refine andR_sc (andR_sc (andR_sc (andR_sc y (fun q' a b => ?_)) (fun q' a b => ?_) (e := p + 3) (o := q.2.2.2.2)) (fun q' a b => ?_) (e := u) (o := q.2.2.2.2)) (fun q' a b => ?_) (e := u + 1) (o := q.2.2.2.2)
  · have z := gR_sc (sr := sr) (E := E) a (by omega) c2
    rw [b] at z
    exact z
  · have z := vR_sc (E := E) a c3 (by rw [c4]; decide) (by omega)
    rw [b] at z
    exact z
  · have z := gR_sc (sr := sr) (E := E) a hE c4
    rw [b] at z
    exact z
  · have z := hi q' a
    rw [b] at z
    exact z
theorem stepP_sc {take inner : PS → Bool × PS} {q : PS} {p : Nat} (hq : q.1 = (p : Int)) (hp : p < E) : (sr p = 40 → Sc (stepR sr E take inner true false q) (p + 1) (q.2.2.2.2 + 1)) ∧ (sr p = 41 → 0 < q.2.2.2.2 → Sc (stepR sr E take inner true false q) (p + 1) (q.2.2.2.2 - 1)) := by
  have hh : hereF sr (E : Int) q.1 = sr p := by rw [hq, he_i hp]
  have ha : (advF q).1 = ((p + 1 : Nat) : Int) := by show q.1 + 1 = _; omega
  refine ⟨fun c => ?_, fun c c1 => ?_⟩
  · unfold stepR
    rw [hh, if_pos (show stepOk (sr p) true false q from Or.inr (Or.inr (Or.inr (Or.inr (Or.inr (Or.inr (Or.inr (Or.inr ⟨Or.inl c, rfl⟩)))))))), c]
    unfold stepG
    rw [if_neg (by decide), if_neg (by decide), if_neg (by decide), if_neg (by decide), if_neg (by decide), if_neg (by decide), if_neg (by decide)]
    refine ⟨rfl, ha, ?_⟩
    show q.2.2.2.2 + (if (40 : Int) = 40 then 1 else if (40 : Int) = 41 then -1 else 0) = _
    rw [if_pos rfl]
  · unfold stepR
    rw [hh, if_pos (show stepOk (sr p) true false q from Or.inr (Or.inr (Or.inr (Or.inr (Or.inr (Or.inr (Or.inr (Or.inr ⟨Or.inr ⟨c, c1⟩, rfl⟩)))))))), c]
    unfold stepG
    rw [if_neg (by decide), if_neg (by decide), if_neg (by decide), if_neg (by decide), if_neg (by decide), if_neg (by decide), if_neg (by decide)]
    refine ⟨rfl, ha, ?_⟩
    show q.2.2.2.2 + (if (41 : Int) = 40 then 1 else if (41 : Int) = 41 then -1 else 0) = _
    rw [if_neg (by decide), if_pos rfl]
    omega
theorem stepsL_stop {st : PS → Bool × PS} {len : Int} {r : Bool × PS} (h : ¬ hereF sr len r.2.1 = 59) : ∀ (k : Nat) (n : Int), stepsL sr len st k n r = (r, n)
  | 0, _ => rfl
  | k + 1, n => by
    show (if r.1 = true ∧ hereF sr len r.2.1 = 59 then stepsL sr len st k (n + 1) (st (advF r.2)) else (r, n)) = _
    rw [if_neg (fun z => h z.2)]
theorem stepsL_go {st : PS → Bool × PS} {e : Nat} {o : Int} {r : Bool × PS} (h : Sc r e o) (he : e < E) (h59 : sr e = 59) (k : Nat) (n : Int) : stepsL sr E st (k + 1) n r = stepsL sr E st k (n + 1) (st (advF r.2)) := by
  show (if r.1 = true ∧ hereF sr (E : Int) r.2.1 = 59 then stepsL sr E st k (n + 1) (st (advF r.2)) else (r, n)) = _
  rw [if_pos ⟨h.1, by rw [h.2.1, he_i he]; exact h59⟩]
/-- the steps between braces -/
theorem stepsL_sc {st : PS → Bool × PS} {D : Int} {R : Nat} (hR : R < E) (h125 : sr R = 125) (hst : ∀ (f p e : Nat) (q : PS), stepQ sr (stsC sr f) p e → DBd sr D p e → BGv sr p e → ¬ dgP (sr e) → e ≤ R → q.1 = (p : Int) → Sc (st q) e q.2.2.2.2) : ∀ (f p k : Nat) (n : Int) (q : PS), stsC sr f p R → DBd sr D p R → BGv sr p R → R ≤ p + k → q.1 = (p : Int) → Sc (stepsL sr E st k n (st q)).1 R q.2.2.2.2
  | 0, _, _, _, _, h, _, _, _, _ => absurd h id
  | f + 1, p, k, n, q, h, hb, hg, hk, hq => by
    obtain ⟨e, k1, k2, k3⟩ := h
    have lt := stepQ_lt k1
    have eR : e ≤ R := by rcases k3 with k3 | k3 <;> omega
    have z0 := stepQ_bd (fun a b _ z => stsC_bd f a b z) k1
    have s1 := hst f p e q k1 (fun x a b => hb x a (by omega)) (fun j a b => hg j a (by omega)) (endC_nd k2) eR hq
    rcases k3 with rfl | ⟨k3, k4, k5⟩
    · rw [stepsL_stop (by rw [s1.2.1, he_i hR, h125]; decide)]
      exact s1
    · obtain ⟨k, rfl⟩ : ∃ k', k = k' + 1 := ⟨k - 1, by omega⟩
      rw [stepsL_go s1 (by omega) k4]
      have z1 : bdp sr p (e + 1) = 0 := by
        rw [bdp_a (show p ≤ e by omega) (show e ≤ e + 1 by omega), z0, bdp_1, brk_ne (by omega) (by omega)]
        rfl
      have y := stepsL_sc hR h125 hst f (e + 1) k (n + 1) (advF (st q).2) k5 (hb.s0 (by omega) z1 (Nat.le_refl _)) (fun j a b => hg j (by omega) b) (by omega) (by show (st q).2.1 + 1 = _; rw [s1.2.1]; omega)
      have eo : (advF (st q).2).2.2.2.2 = q.2.2.2.2 := s1.2.2
      rw [eo] at y
      exact y
/-- a step is read again -/
theorem stepN_sc : ∀ (n : Nat),
    (∀ (w : Int) (it bh : Bool) (f p e : Nat) (q : PS), w ≤ 3 → 2 * (3 - w) + 1 ≤ n → stepT sr (stsC sr f) p e → DBd sr (3 - w) p e → BGv sr p e → ¬ dgP (sr e) → e ≤ E → q.1 = (p : Int) → Sc (stepN sr E n w it bh q) e q.2.2.2.2) ∧
    (∀ (w : Int) (it : Bool) (f p e : Nat) (q : PS), w ≤ 3 → 2 * (3 - w) + 2 ≤ n → stepQ sr (stsC sr f) p e → DBd sr (3 - w) p e → BGv sr p e → ¬ dgP (sr e) → e ≤ E → q.1 = (p : Int) → Sc (stepN sr E n w it false q) e q.2.2.2.2)
  | 0 => ⟨fun w it bh f p e q h1 h2 => by omega, fun w it f p e q h1 h2 => by omega⟩
  | n + 1 => by
    obtain ⟨ihT, ihQ⟩ := stepN_sc n
    have T : ∀ (w : Int) (it bh : Bool) (f p e : Nat) (q : PS), w ≤ 3 → 2 * (3 - w) + 1 ≤ ((n + 1 : Nat) : Int) → stepT sr (stsC sr f) p e → DBd sr (3 - w) p e → BGv sr p e → ¬ dgP (sr e) → e ≤ E → q.1 = (p : Int) → Sc (stepN sr E (n + 1) w it bh q) e q.2.2.2.2 := by
      intro w it bh f p e q h1 h2 k hb hg he hE hq
      refine stepT_sc hq hE he hg k (fun q' h97 a hx => takeG_sc (st := stsC sr f) a hE hx (fun u r g1 g2 g3 g4 g5 g6 g7 => ?_))
      have z1 : bdp sr p (u + 1) = 1 := by
        rw [bdp_a (show p ≤ u by omega) (show u ≤ u + 1 by omega), ((nbr.ch h97 (by decide) (by decide)).tr (nbr.nam g3)).z, bdp_1, brk_o g2]
        rfl
      have hw := hb (u + 1) (by omega) (by omega)
      rw [z1] at hw
      refine ⟨by omega, fun q2 b => ?_⟩
      have y := stepsL_sc (st := stepN sr E n (w + 1) false false) (D := 3 - (w + 1)) (E := E) (R := r) (by omega) g7 (fun f' p' e' q3 x1 x2 x3 x4 x5 x6 => ihQ (w + 1) false f' p' e' q3 (by omega) (by omega) x1 x2 x3 x4 (by omega) x6) f (u + 1) ((E : Int).toNat + 1) 1 q2 g4 (by
        have y := hb.sub (show p ≤ u + 1 by omega) z1 (show r ≤ e by omega)
        rw [show 3 - w - 1 = 3 - (w + 1) by omega] at y
        exact y) (fun j a b => hg j (by omega) (by omega)) (by omega) b
      exact ⟨y.1, y.2.1, y.2.2⟩
    refine ⟨T, fun w it f p e q h1 h2 k hb hg he hE hq => ?_⟩
    rcases k with k | ⟨c, c1, c2, u, c3, c4, k⟩
    · exact T w it false f p e q h1 (by omega) k hb hg he hE hq
    · have l1 := sgnS_lt c3
      have l2 := stepT_lt k
      exact stepAsk_sc hq (by omega) c c1 c2 c3 c4 (fun q' a => ihT w false true f (u + 1) e q' h1 (by omega) k (hb.s0 (by omega) (nbr.ask c c1 c2 c3 c4).z (Nat.le_refl _)) (fun j a b => hg j (by omega) b) he hE a)
/-- a whole text is read again, and its steps are those of the chain -/
theorem stL_sc {S : Nat → Option mO} : ∀ (n : Nat) (it : Bool) (o a hi p : Nat) (k : Nat) (c : Int) (q : PS), stL S sr n it o a hi p E → DBd sr 3 p E → BGv sr p E → E ≤ p + k → q.1 = (p : Int) → (o : Int) < q.2.2.2.2 → ∃ j : Nat, chL S (j + 1) (some a) ∧ (stepsL sr E (stepN sr E 8 0 true false) k c (stepN sr E 8 0 true false q)).2 = c + j
  | 0, _, _, _, _, _, _, _, _, h => h.elim
  | n + 1, it, o, a, hi, p, k, c, q, h => by
    intro hb hg hk hq ho
    obtain ⟨nx, mid, e, o', h1, h2, h3, h4⟩ := h
    obtain ⟨⟨kd, num, vl, y, inn, h5⟩, h6⟩ := stK_o h1
    have he := endC_nd h3
    have eE : e ≤ E := by rcases h4 with h4 | h4 <;> omega
    have st : bdp sr p e = 0 ∧ ∃ o2 : Int, (o' : Int) < o2 ∧ Sc (stepN sr E 8 0 true false q) e o2 := by
      rcases h1 with ⟨k, rfl⟩ | ⟨-, -, c, rfl, rfl, -⟩ | ⟨-, -, c, rfl, rfl, -⟩
      · have kq := stQ_t (st := stsC sr n) (fun b q r z => stL_tC n 0 b _ q r z) k
        exact ⟨stepQ_bd (fun x y _ z => stsC_bd n x y z) kq, _, ho, (stepN_sc 8).2 0 true n p e q (by decide) (by decide) kq (fun x a b => hb x a (by omega)) (fun j a b => hg j a (by omega)) he eE hq⟩
      · exact ⟨by rw [bdp_1, brk_ne (by omega) (by omega)], q.2.2.2.2 + 1, by omega, (stepP_sc (sr := sr) (E := E) hq (by omega)).1 c⟩
      · exact ⟨by rw [bdp_1, brk_ne (by omega) (by omega)], q.2.2.2.2 - 1, by omega, (stepP_sc (sr := sr) (E := E) hq (by omega)).2 c (by omega)⟩
    obtain ⟨z0, o2, g1, s1⟩ := st
    rcases h4 with ⟨rfl, rfl⟩ | ⟨h7, h9, b, rfl, -, h8⟩
    · refine ⟨0, ⟨a, kd, num, vl, y, inn, none, rfl, h5, rfl⟩, ?_⟩
      rw [stepsL_stop (by rw [s1.2.1, he_e (Nat.le_refl _)]; decide)]
      show c = c + 0
      rw [Int.add_zero]
    · obtain ⟨k, rfl⟩ : ∃ k', k = k' + 1 := ⟨k - 1, by omega⟩
      have z1 : bdp sr p (e + 1) = 0 := by
        rw [bdp_a (show p ≤ e by omega) (show e ≤ e + 1 by omega), z0, bdp_1, brk_ne (by omega) (by omega)]
        rfl
      have eo : (advF (stepN sr E 8 0 true false q).2).2.2.2.2 = o2 := s1.2.2
      obtain ⟨j, j1, j2⟩ := stL_sc n it o' b hi (e + 1) k (c + 1) (advF (stepN sr E 8 0 true false q).2) h8 (hb.s0 (by omega) z1 (Nat.le_refl _)) (fun j a b => hg j (by omega) b) (by omega) (by show (stepN sr E 8 0 true false q).2.1 + 1 = _; rw [s1.2.1]; omega) (by rw [eo]; exact g1)
      refine ⟨j + 1, ⟨a, kd, num, vl, y, inn, some b, rfl, h5, j1⟩, ?_⟩
      rw [stepsL_go s1 h7 h9, j2]
      omega
theorem steps_in {S : Nat → Option mO} {n : Nat} {it : Bool} {o a hi p : Nat} {f11 f12 : Int} (h : stL S sr n it o a hi p E) (hb : DBd sr 3 p E) (hg : BGv sr p E) (ho : o < 90) : ∃ j : Nat, chL S j (some a) ∧ stepsInV sr p E f11 f12 = j := by
  have lt := stL_lt h
  obtain ⟨j, j1, j2⟩ := stL_sc n it o a hi p ((E : Int).toNat + 1) 1 (p, -1, f11, f12, 90) h hb hg (by omega) rfl (by show (o : Int) < 90; omega)
  refine ⟨j + 1, j1, ?_⟩
  unfold stepsInV
  rw [if_neg (by omega)]
  have y : (stepsW sr E 0 true ((p : Int), -1, f11, f12, 90)).2.2.2.2.1 = (stepsL sr E (stepN sr E 8 0 true false) ((E : Int).toNat + 1) 1 (stepN sr E 8 0 true false ((p : Int), -1, f11, f12, 90))).2 := rfl
  rw [y, j2]
  omega
theorem steps_no {f11 f12 : Int} {p : Nat} : stepsInV sr p p f11 f12 = 0 := by
  unfold stepsInV
  rw [if_pos rfl]
end SC
def lastV (o : mO) : Value := match o with
  | .inl (_, [_, _, _, _, _, v]) => v
  | _ => .null
theorem stO_n {kd num vl kd2 num2 vl2 : Int} {y y2 : Int64} {inn inn2 n n2 : Option Nat} (h : stO kd num vl y inn n = stO kd2 num2 vl2 y2 inn2 n2) : n = n2 := va_rf_i (congrArg lastV h)
theorem chL_u {S : Nat → Option mO} : ∀ (n k : Nat) (r : Option Nat), chL S n r → chL S k r → n = k
  | 0, 0, _, _, _ => rfl
  | 0, k + 1, r, h, ⟨a, _, _, _, _, _, _, e, _⟩ => by
    have h' : r = none := h
    rw [h'] at e; cases e
  | n + 1, 0, r, ⟨a, _, _, _, _, _, _, e, _⟩, h => by
    have h' : r = none := h
    rw [h'] at e; cases e
  | n + 1, k + 1, r, ⟨a, kd, num, vl, y, inn, nx, e1, e2, e3⟩, ⟨a', kd', num', vl', y', inn', nx', f1, f2, f3⟩ => by
    have ea : a = a' := by rw [e1] at f1; exact Option.some.inj f1
    subst ea
    rw [e2] at f2
    have en : nx = nx' := stO_n (Option.some.inj f2)
    subst en
    rw [chL_u n k nx e3 f3]
/-- .. whatever the reader held before -/
theorem steps_all {S : Nat → Option mO} {sr : Nat → Int} {n : Nat} {it : Bool} {o a hi p E : Nat} (h : stL S sr n it o a hi p E) (hb : DBd sr 3 p E) (hg : BGv sr p E) (ho : o < 90) : ∃ j : Nat, chL S j (some a) ∧ p + j ≤ E ∧ ∀ f11 f12, stepsInV sr p E f11 f12 = j := by
  obtain ⟨j, j1, j2⟩ := stL_ch n it o a hi p E h
  refine ⟨j, j1, j2, fun f11 f12 => ?_⟩
  obtain ⟨k, k1, k2⟩ := steps_in (f11 := f11) (f12 := f12) h hb hg ho
  rw [k2, chL_u j k _ j1 k1]
/-- what the pool's own property says of a text in it -/
theorem GP.db {pool : Nat → Int} {b P E : Nat} (h : GP pool b) (hE : E ≤ b) : DBd pool 3 P E := fun q a c => h.1 P q a (by omega)
theorem GP.bg {pool : Nat → Int} {b P E : Nat} (h : GP pool b) (hE : E ≤ b) : BGv pool P E := fun j _ c d => bgO_v (h.2.2 j (Nat.zero_le _) (by omega) d)

section mg_76
theorem stepQ_at {sr sr' : Nat → Int} {s1 s2 : Nat → Nat → Prop} {d p e : Nat} (h : likeAt sr sr' d p e) (hs : ∀ a b, p ≤ a → b ≤ e → s1 a b → s2 (a + d) (b + d)) (k : stepQ sr s1 p e) : stepQ sr' s2 (p + d) (e + d) := by
  rcases k with k | ⟨k1, k2, k3, q, k4, k5, k6⟩
  · exact Or.inl (stepT_at h hs k)
  · have hl := sgnS_lt k4
    have hm := stepT_lt k6
    have h1 : sr' (p + d + 1) = sr (p + 1) := by rw [show p + d + 1 = p + 1 + d by omega]; exact h _ (by omega) (by omega)
    have h2 : sr' (p + d + 2) = sr (p + 2) := by rw [show p + d + 2 = p + 2 + d by omega]; exact h _ (by omega) (by omega)
    refine Or.inr ⟨(h p (by omega) (by omega)).trans k1, by rw [h1]; exact k2, h2.trans k3, q + d, ?_, (h q (by omega) (by omega)).trans k5, ?_⟩
    · rw [show p + d + 3 = p + 3 + d by omega]
      exact sgnS_at (h.sub (by omega) (by omega)) k4
    · rw [show q + d + 1 = q + 1 + d by omega]
      exact stepT_at (h.sub (by omega) (by omega)) (fun a b x y => hs a b (by omega) (by omega)) k6
theorem stsC_at {sr sr' : Nat → Int} {d : Nat} : ∀ (n p E : Nat), likeAt sr sr' d p E → stsC sr n p E → stsC sr' n (p + d) (E + d)
  | 0, _, _, _, k => absurd k id
  | n + 1, p, E, h, k => by
    obtain ⟨e, k1, k2, k3⟩ := k
    have hl := stepQ_lt k1
    have he : e ≤ E := by rcases k3 with k3 | ⟨k3, _⟩ <;> omega
    refine ⟨e + d, stepQ_at (h.sub (by omega) he) (fun a b x y z => stsC_at n a b (h.sub (by omega) (by omega)) z) k1, by rw [h e (by omega) he]; exact k2, ?_⟩
    rcases k3 with k3 | ⟨k3, k4, k5⟩
    · exact Or.inl (by omega)
    · refine Or.inr ⟨by omega, (h e (by omega) he).trans k4, ?_⟩
      rw [show e + d + 1 = e + 1 + d by omega]
      exact stsC_at n (e + 1) E (h.sub (by omega) (by omega)) k5
theorem stsT_at {sr sr' : Nat → Int} {d : Nat} : ∀ (n o p E : Nat), likeAt sr sr' d p E → stsT sr n o p E → stsT sr' n o (p + d) (E + d)
  | 0, _, _, _, _, k => absurd k id
  | n + 1, o, p, E, h, k => by
    obtain ⟨e, o', k1, k2, k3⟩ := k
    have hl := stepK_lt k1
    have he : e ≤ E := by rcases k3 with k3 | ⟨k3, _⟩ <;> omega
    have hp : sr' (p + d) = sr p := h p (by omega) (by omega)
    refine ⟨e + d, o', ?_, by rw [h e (by omega) he]; exact k2, ?_⟩
    · rcases k1 with ⟨k1, z⟩ | ⟨k1, z1, z2⟩ | ⟨k1, z1, z2⟩
      · exact Or.inl ⟨stepQ_at (h.sub (by omega) he) (fun a b x y z => stsC_at n a b (h.sub (by omega) (by omega)) z) k1, z⟩
      · exact Or.inr (Or.inl ⟨hp.trans k1, by omega, z2⟩)
      · exact Or.inr (Or.inr ⟨hp.trans k1, by omega, z2⟩)
    · rcases k3 with k3 | ⟨k3, k4, k5⟩
      · exact Or.inl (by omega)
      · refine Or.inr ⟨by omega, (h e (by omega) he).trans k4, ?_⟩
        rw [show e + d + 1 = e + 1 + d by omega]
        exact stsT_at n o' (e + 1) E (h.sub (by omega) (by omega)) k5
/-! what scans make of them -/
/-- from p to e, at a depth from lo on, no scan stops, and the depth is the same behind it -/
def Skip (sr : Nat → Int) (lo : Int) (p e : Nat) : Prop := p ≤ e ∧ ∀ (n : Nat) (u : Int), lo ≤ u → behL sr ((e - p) + n) p u = behL sr n e u ∧ (1 ≤ u → brL sr ((e - p) + n) p u = brL sr n e u ∧ (brStop sr n e u → brStop sr ((e - p) + n) p u))
theorem Skip.rf {sr : Nat → Int} {lo : Int} {p : Nat} : Skip sr lo p p := ⟨Nat.le_refl _, fun n u _ => by rw [Nat.sub_self, Nat.zero_add]; exact ⟨rfl, fun _ => ⟨rfl, id⟩⟩⟩
theorem Skip.tr {sr : Nat → Int} {lo : Int} {p q e : Nat} (a : Skip sr lo p q) (b : Skip sr lo q e) : Skip sr lo p e := by
  obtain ⟨a1, a2⟩ := a
  obtain ⟨b1, b2⟩ := b
  refine ⟨by omega, fun n u hu => ?_⟩
  obtain ⟨c1, c2⟩ := a2 ((e - q) + n) u hu
  obtain ⟨d1, d2⟩ := b2 n u hu
  rw [show (e - p) + n = (q - p) + ((e - q) + n) by omega]
  refine ⟨c1.trans d1, fun h => ⟨(c2 h).1.trans (d2 h).1, fun s => (c2 h).2 ((d2 h).2 s)⟩⟩
theorem Skip.up {sr : Nat → Int} {lo lo' : Int} {p e : Nat} (a : Skip sr lo p e) (h : lo ≤ lo') : Skip sr lo' p e := ⟨a.1, fun n u hu => a.2 n u (by omega)⟩
theorem Skip.ch {sr : Nat → Int} {lo : Int} {p : Nat} (h1 : ¬ sr p = 59) (h2 : ¬ sr p = 123) (h3 : ¬ sr p = 125) : Skip sr lo p (p + 1) := by
  refine ⟨by omega, fun n u hu => ?_⟩
  rw [show p + 1 - p + n = n + 1 by omega]
  have hb := brk_ne h2 h3
  refine ⟨?_, fun h => ⟨?_, fun s => ?_⟩⟩
  · rw [behL, if_pos (Or.inr h1), hb, Int.add_zero]
  · rw [brL, if_pos (by omega), hb, Int.add_zero]
  · unfold brStop
    intro _
    rw [hb, Int.add_zero]; exact s
theorem Skip.semi {sr : Nat → Int} {p : Nat} (h1 : sr p = 59) : Skip sr 1 p (p + 1) := by
  refine ⟨by omega, fun n u hu => ?_⟩
  rw [show p + 1 - p + n = n + 1 by omega]
  have hb : brk (sr p) = 0 := by rw [h1]; decide
  refine ⟨?_, fun h => ⟨?_, fun s => ?_⟩⟩
  · rw [behL, if_pos (Or.inl (by omega)), hb, Int.add_zero]
  · rw [brL, if_pos (by omega), hb, Int.add_zero]
  · unfold brStop
    intro _
    rw [hb, Int.add_zero]; exact s
theorem Skip.brace {sr : Nat → Int} {q r : Nat} (h1 : sr q = 123) (a : Skip sr 1 (q + 1) r) (h2 : sr r = 125) : Skip sr 0 q (r + 1) := by
  obtain ⟨a1, a2⟩ := a
  refine ⟨by omega, fun n u hu => ?_⟩
  have b1 : brk (sr q) = 1 := by rw [h1]; decide
  have b2 : brk (sr r) = -1 := by rw [h2]; decide
  rw [show r + 1 - q + n = ((r - (q + 1)) + (n + 1)) + 1 by omega]
  obtain ⟨c1, c2⟩ := a2 (n + 1) (u + 1) (by omega)
  obtain ⟨c3, c4⟩ := c2 (by omega)
  refine ⟨?_, fun h => ⟨?_, fun s => ?_⟩⟩
  · rw [behL, if_pos (Or.inr (by rw [h1]; decide)), b1, c1, behL, if_pos (Or.inl (by omega)), b2, show u + 1 + -1 = u by omega]
  · rw [brL, if_pos (by omega), b1, c3, brL, if_pos (by omega), b2, show u + 1 + -1 = u by omega]
  · unfold brStop
    intro _
    rw [b1]
    refine c4 ?_
    unfold brStop
    intro _
    rw [b2, show u + 1 + -1 = u by omega]
    exact s
theorem Skip.run {sr : Nat → Int} {lo : Int} : ∀ (n p e : Nat), p + n = e → (∀ j, p ≤ j → j < e → ¬ sr j = 59 ∧ ¬ sr j = 123 ∧ ¬ sr j = 125) → Skip sr lo p e
  | 0, p, e, h, _ => by
    obtain rfl : p = e := by omega
    exact Skip.rf
  | n + 1, p, e, h, k => by
    obtain ⟨k1, k2, k3⟩ := k p (by omega) (by omega)
    exact (Skip.ch k1 k2 k3).tr (Skip.run n (p + 1) e (by omega) (fun j a b => k j (by omega) b))
theorem numS_skip {sr : Nat → Int} {lo : Int} {p e k : Nat} (h : numS sr p e k) : Skip sr lo p e := by
  obtain ⟨h1, h2, h3⟩ := h
  exact Skip.run (e - p) p e (by omega) (fun j a b => by have := h3 j a b; omega)
theorem sgnS_skip {sr : Nat → Int} {lo : Int} {p e : Nat} (h : sgnS sr p e) : Skip sr lo p e := by
  rcases h with ⟨h1, h2⟩ | h
  · exact (Skip.ch (by omega) (by omega) (by omega)).tr (numS_skip h2)
  · exact numS_skip h
theorem namS_skip {sr : Nat → Int} {lo : Int} {p e : Nat} (h : namS sr p e) : Skip sr lo p e := by
  obtain ⟨h1, h2, h3, _⟩ := h
  exact Skip.run (e - p) p e (by omega) (fun j a b => by have := h3 j a b; unfold isLt at this; omega)
theorem stepT_skip {sr : Nat → Int} {steps : Nat → Nat → Prop} {p e : Nat} (hs : ∀ a b, steps a b → Skip sr 1 a b) (k : stepT sr steps p e) : Skip sr 0 p e := by
  rcases k with ⟨k1, k2, k3, k4⟩ | ⟨k1, k2⟩ | ⟨k1, q, k2, k3⟩ | ⟨k1, k2⟩ | ⟨k1, q, k2, k3, k4⟩ | ⟨k1, k2, k3⟩ | ⟨k1, k2⟩
  · exact ((Skip.ch (by omega) (by omega) (by omega)).tr ((Skip.ch (by omega) (by omega) (by omega)).tr (Skip.ch (p := p + 2) (by omega) (by omega) (by omega)))).tr (sgnS_skip k4)
  · exact (Skip.ch (by omega) (by omega) (by omega)).tr (numS_skip k2)
  · refine ((Skip.ch (by omega) (by omega) (by omega)).tr (namS_skip k2)).tr ?_
    rcases k3 with ⟨rfl, _⟩ | ⟨k3, r, k4, k5, k6, rfl⟩
    · exact Skip.rf
    · exact Skip.brace k3 (hs _ _ k4) k6
  · exact (Skip.ch (by omega) (by omega) (by omega)).tr (namS_skip k2)
  · exact ((Skip.ch (by omega) (by omega) (by omega)).tr (namS_skip k2)).tr ((Skip.ch (by omega) (by omega) (by omega)).tr (numS_skip k4))
  · subst k3
    exact (Skip.ch (by omega) (by omega) (by omega)).tr (Skip.ch (by omega) (by omega) (by omega))
  · subst k2
    exact Skip.ch (by omega) (by omega) (by omega)
theorem stepQ_skip {sr : Nat → Int} {steps : Nat → Nat → Prop} {p e : Nat} (hs : ∀ a b, steps a b → Skip sr 1 a b) (k : stepQ sr steps p e) : Skip sr 0 p e := by
  rcases k with k | ⟨k1, k2, k3, q, k4, k5, k6⟩
  · exact stepT_skip hs k
  · exact (((Skip.ch (by omega) (by omega) (by omega)).tr ((Skip.ch (by omega) (by omega) (by omega)).tr (Skip.ch (p := p + 2) (by omega) (by omega) (by omega)))).tr (sgnS_skip k4)).tr ((Skip.ch (by omega) (by omega) (by omega)).tr (stepT_skip hs k6))
theorem stsC_skip {sr : Nat → Int} : ∀ (n p E : Nat), stsC sr n p E → Skip sr 1 p E
  | 0, _, _, k => absurd k id
  | n + 1, p, E, k => by
    obtain ⟨e, k1, k2, k3⟩ := k
    have h1 := (stepQ_skip (fun a b => stsC_skip n a b) k1).up (lo' := 1) (by omega)
    rcases k3 with rfl | ⟨k3, k4, k5⟩
    · exact h1
    · exact (h1.tr (Skip.semi k4)).tr (stsC_skip n _ _ k5)
theorem stepK_skip {sr : Nat → Int} {n o p e o' : Nat} (k : stepK sr (stsC sr n) o p e o') : Skip sr 0 p e := by
  rcases k with ⟨k, _⟩ | ⟨k1, rfl, _⟩ | ⟨k1, rfl, _⟩
  · exact stepQ_skip (fun a b => stsC_skip n a b) k
  · exact Skip.ch (by omega) (by omega) (by omega)
  · exact Skip.ch (by omega) (by omega) (by omega)
/-- where the next step begins -/
theorem Skip.beh {sr : Nat → Int} {p e E : Nat} (a : Skip sr 0 p e) (he : e ≤ E) (h : e = E ∨ sr e = 59) : behL sr (E - p) p 0 = e := by
  have z := (a.2 (E - e) 0 (Int.le_refl _)).1
  rw [show e - p + (E - e) = E - p by have := a.1; omega] at z
  rw [z]
  cases hk : E - e with
  | zero => unfold behL; rfl
  | succ k =>
    unfold behL
    rw [if_neg (by rcases h with h | h <;> omega)]
/-- the braces of a closer -/
theorem Skip.br {sr : Nat → Int} {p r n : Nat} (a : Skip sr 1 p r) (h : sr r = 125) (hn : r - p + 1 ≤ n) : brL sr (n + 1) p 1 = r + 1 ∧ brStop sr n p 1 := by
  have b2 : brk (sr r) = -1 := by rw [h]; decide
  have hl := a.1
  constructor
  · obtain ⟨-, z⟩ := a.2 (n + 1 - (r - p)) 1 (Int.le_refl _)
    obtain ⟨z1, -⟩ := z (Int.le_refl _)
    rw [show r - p + (n + 1 - (r - p)) = n + 1 by omega] at z1
    rw [z1, show n + 1 - (r - p) = (n - 1 - (r - p)) + 1 + 1 by omega, brL, if_pos (by decide), b2, brL, if_neg (by decide)]
  · obtain ⟨-, w⟩ := a.2 (n - (r - p)) 1 (Int.le_refl _)
    obtain ⟨-, w2⟩ := w (Int.le_refl _)
    rw [show r - p + (n - (r - p)) = n by omega] at w2
    refine w2 ?_
    rw [show n - (r - p) = (n - 1 - (r - p)) + 1 by omega]
    unfold brStop
    intro _
    rw [b2]
    cases n - 1 - (r - p) with
    | zero => unfold brStop; decide
    | succ k => unfold brStop; intro h; exact absurd h (by decide)
/-! numbers -/
theorem stops_run {sr : Nat → Int} : ∀ (n p e : Nat), p ≤ e → e ≤ p + n → (∀ j, p ≤ j → j < e → dgP (sr j)) → ¬ dgP (sr e) → stopsBy sr n p
  | 0, p, e, h1, h2, h3, h4 => by
    obtain rfl : p = e := by omega
    exact h4
  | n + 1, p, e, h1, h2, h3, h4 => by
    unfold stopsBy
    intro hd
    by_cases c : p = e
    · subst c; exact absurd hd h4
    · exact stops_run n (p + 1) e (by omega) (by omega) (fun j a b => h3 j (by omega) b) h4
/-- ten to so many -/
def tenP : Nat → Int
  | 0 => 1
  | n + 1 => 10 * tenP n
theorem tenP_1 (n : Nat) : 1 ≤ tenP n := by
  induction n with
  | zero => exact Int.le_refl _
  | succ n ih => unfold tenP; omega
theorem naL_b {sr : Nat → Int} : ∀ (k n p e : Nat) (v b : Int), p ≤ e → e ≤ p + k → (∀ j, p ≤ j → j < e → dgP (sr j)) → ¬ dgP (sr e) → 0 ≤ v → v < b → 0 ≤ naL sr n p v ∧ naL sr n p v < b * tenP k
  | k, 0, p, e, v, b, h1, h2, h3, h4, h5, h6 => by
    have := tenP_1 k
    unfold naL
    refine ⟨h5, Int.lt_of_lt_of_le h6 ?_⟩
    have := Int.mul_le_mul_of_nonneg_left (c := b) this (by omega)
    omega
  | 0, n + 1, p, e, v, b, h1, h2, h3, h4, h5, h6 => by
    obtain rfl : p = e := by omega
    unfold naL
    rw [if_neg h4]
    unfold tenP
    omega
  | k + 1, n + 1, p, e, v, b, h1, h2, h3, h4, h5, h6 => by
    unfold naL
    split
    · rename_i hd
      by_cases c : p = e
      · subst c; exact absurd hd h4
      · have z := naL_b k n (p + 1) e (10 * v + sr p - 48) (b * 10) (by omega) (by omega) (fun j a b => h3 j (by omega) b) h4 (by omega) (by omega)
        refine ⟨z.1, ?_⟩
        have e0 : tenP (k + 1) = 10 * tenP k := rfl
        have e1 : b * tenP (k + 1) = b * 10 * tenP k := by rw [e0, ← Int.mul_assoc]
        rw [e1]; exact z.2
    · have := tenP_1 (k + 1)
      refine ⟨h5, Int.lt_of_lt_of_le h6 ?_⟩
      have := Int.mul_le_mul_of_nonneg_left (c := b) this (by omega)
      omega
theorem endC_nd {c : Int} (h : endC c) : ¬ dgP c := by unfold endC at h; unfold dgP; omega
/-- a number ends where its figures end: how it is read -/
theorem num_dig {sr : Nat → Int} {p e k : Nat} (h : numS sr p e k) (hk : k ≤ 5) (he : ¬ dgP (sr e)) : digR sr p 20 ∧ (0 ≤ numAt sr 20 p ∧ numAt sr 20 p < 100000) := by
  obtain ⟨h1, h2, h3⟩ := h
  have hp := h3 p (Nat.le_refl _) h1
  have hm : ¬ sr p = 45 := by unfold dgP at hp; omega
  refine ⟨⟨by decide, by rw [if_neg hm]; exact stops_run 20 p e (by omega) (by omega) h3 he⟩, ?_⟩
  have z := naL_b (sr := sr) 5 (20 + 1) p e 0 1 (by omega) (by omega) h3 he (Int.le_refl _) (by decide)
  unfold numAt
  rw [if_neg hm]
  have e1 : (1 : Int) * tenP 5 = 100000 := by decide
  rw [e1] at z
  exact z
theorem sgn_dig {sr : Nat → Int} {p e : Nat} (h : sgnS sr p e) (he : ¬ dgP (sr e)) : digR sr p 20 ∧ (-100000 < numAt sr 20 p ∧ numAt sr 20 p < 100000) := by
  rcases h with ⟨h0, h1, h2, h3⟩ | h
  · refine ⟨⟨by decide, by rw [if_pos h0]; exact stops_run 20 (p + 1) e (by omega) (by omega) h3 he⟩, ?_⟩
    have z := naL_b (sr := sr) 5 (20 + 1) (p + 1) e 0 1 (by omega) (by omega) h3 he (Int.le_refl _) (by decide)
    unfold numAt
    rw [if_pos h0]
    have e1 : (1 : Int) * tenP 5 = 100000 := by decide
    rw [e1] at z
    omega
  · obtain ⟨a, b⟩ := num_dig h (Nat.le_refl _) he
    exact ⟨a, by omega, b.2⟩
/-- a name ends where its letters end -/
theorem nam_end {sr : Nat → Int} {p e : Nat} (h : namS sr p e) : neL sr 7 p = e := by
  obtain ⟨h1, h2, h3, h4⟩ := h
  have key : ∀ n k : Nat, p ≤ k → k ≤ e → k + n = p + 7 → neL sr n k = e := by
    intro n
    induction n with
    | zero =>
      intro k a b c
      unfold neL; omega
    | succ n ih =>
      intro k a b c
      unfold neL
      by_cases g : k = e
      · subst g
        rw [if_neg (show ¬ (97 ≤ sr k ∧ sr k ≤ 122) from by rcases h4 with h4 | h4; omega; exact h4)]
      · have := h3 k a (by omega)
        rw [if_pos (show 97 ≤ sr k ∧ sr k ≤ 122 from this)]
        exact ih (k + 1) (by omega) (by omega) (by omega)
  exact key 7 p (Nat.le_refl _) (by omega) rfl
end mg_76
section mg_77
/-! ===== what holds of the reference's row between steps, and what a step keeps ===== -/
theorem cnt_congr {p p' : Nat → Bool} : ∀ n : Nat, (∀ q, q < n → p q = p' q) → cnt p n = cnt p' n
  | 0, _ => rfl
  | n + 1, h => by
    unfold cnt
    rw [cnt_congr n (fun q hq => h q (by omega)), h n (by omega)]
theorem cnt_S {p : Nat → Bool} {n : Nat} : cnt p (n + 1) = cnt p n + (if p n then 1 else 0) := rfl
theorem cnt_upd {p p' : Nat → Bool} {t M : Nat} (h1 : p t = false) (h2 : p' t = true) (h : ∀ q, q < M → q ≠ t → p q = p' q) : ∀ n : Nat, n ≤ M → cnt p' n = cnt p n + (if t < n then 1 else 0)
  | 0, _ => by rw [if_neg (Nat.not_lt_zero t)]; rfl
  | n + 1, hn => by
    have ih := cnt_upd h1 h2 h n (by omega)
    rw [cnt_S, cnt_S, ih]
    by_cases c : n = t
    · subst c
      rw [h1, h2, if_neg (Nat.lt_irrefl n), if_pos (Nat.lt_succ_self n)]
      simp
    · rw [h n (by omega) c]
      generalize (if p' n = true then (1 : Int) else 0) = z
      by_cases d : t < n
      · rw [if_pos d, if_pos (show t < n + 1 by omega)]; omega
      · rw [if_neg d, if_neg (show ¬ t < n + 1 by omega)]; omega
theorem cnt_none {p : Nat → Bool} {N : Nat} : ∀ k : Nat, (∀ j, N ≤ j → j < N + k → p j = false) → cnt p (N + k) = cnt p N
  | 0, _ => rfl
  | k + 1, h => by
    rw [show N + (k + 1) = (N + k) + 1 by omega, cnt_S, h (N + k) (by omega) (by omega), cnt_none k (fun j a b => h j a (by omega))]
    simp
theorem cnt_lt {p : Nat → Bool} {t : Nat} (h : p t = false) : ∀ n : Nat, t < n → cnt p n < n
  | 0, g => by omega
  | n + 1, g => by
    unfold cnt
    by_cases c : n = t
    · subst c
      rw [h]
      have := cnt_r p n
      simp; omega
    · have := cnt_lt h n (by omega)
      split <;> omega
def clsB (m : Nat → Int) (q : Nat) : Bool := decide (m (258 + 14 * q) = 2)
def cngB (m : Nat → Int) (q : Nat) : Bool := decide (m (258 + 14 * q) = 1)
def textT (b : Int) (pool : Nat → Int) (P E : Nat) : Prop := P ≤ E ∧ E ≤ P + 120 ∧ ((P = E ∧ E ≤ 12200) ∨ ((E : Int) < b ∧ ∃ n, stsC pool n P E))
theorem textT.up {b b' : Int} {pool : Nat → Int} {P E : Nat} (h : textT b pool P E) (hb : b ≤ b') : textT b' pool P E := ⟨h.1, h.2.1, h.2.2.elim Or.inl (fun z => Or.inr ⟨by omega, z.2⟩)⟩
theorem textT.le {b : Int} {pool : Nat → Int} {P E : Nat} (h : textT b pool P E) (hb : b ≤ 12200) : E ≤ 12200 := h.2.2.elim (fun z => z.2) (fun z => by omega)
def thOk (m pool : Nat → Int) (t : Nat) : Prop := (0 ≤ m (258 + 14 * t) ∧ m (258 + 14 * t) ≤ 2) ∧ (0 ≤ m (259 + 14 * t) ∧ m (259 + 14 * t) < m 0) ∧ (1 ≤ m (261 + 14 * t) ∧ 0 ≤ m (260 + 14 * t) ∧ m (260 + 14 * t) ≤ m 6) ∧ ∃ P E : Nat, m (262 + 14 * t) = P ∧ m (263 + 14 * t) = E ∧ textT (m 8) pool P E
def Inv (m pool : Nat → Int) (B : Int) : Prop :=
  mOk m ∧ (1 ≤ m 0 ∧ 0 ≤ m 8 ∧ m 8 ≤ 12200) ∧ (∀ t : Nat, (t : Int) < m 1 → thOk m pool t) ∧ (cnt (clsB m) (m 1).toNat = m 2 ∧ m 4 ≤ m 2 ∧ m 5 ≤ m 2) ∧ (0 ≤ m 6 ∧ m 6 + 121 * (90 - m 2) ≤ B) ∧ (∀ t k : Nat, t < 90 → k < 7 → 0 ≤ m (265 + 14 * t + k) ∧ m (265 + 14 * t + k) ≤ 122)
theorem Inv.up {m pool : Nat → Int} {B B' : Int} (h : Inv m pool B) (hb : B ≤ B') : Inv m pool B' := by
  obtain ⟨h1, h2, h3, h4, ⟨h5, h6⟩, h7⟩ := h
  exact ⟨h1, h2, h3, h4, ⟨h5, by omega⟩, h7⟩
/-- cells that closers leave alone -/
def far (q : Nat) : Prop := q = 0 ∨ q = 3 ∨ q = 7 ∨ q = 8 ∨ (18 ≤ q ∧ q < 258) ∨ (1608 ≤ q ∧ q < 2328 ∧ ∀ t : Nat, q ≠ 1614 + 72 * t)
/-- what may have happened by a closer's step -/
def Ev (m m' : Nat → Int) : Prop :=
  (∀ q, far q → m' q = m q) ∧ m 1 ≤ m' 1 ∧ (m 2 ≤ m' 2 ∧ m 6 ≤ m' 6) ∧
  (∀ t : Nat, (t : Int) < m 1 → m' (262 + 14 * t) = m (262 + 14 * t) ∧ m' (263 + 14 * t) = m (263 + 14 * t) ∧ (m' (258 + 14 * t) = 1 ↔ m (258 + 14 * t) = 1) ∧ (m (258 + 14 * t) = 2 → m' (258 + 14 * t) = 2)) ∧
  (∀ t : Nat, m 1 ≤ (t : Int) → (t : Int) < m' 1 → ¬ m' (258 + 14 * t) = 1) ∧
  (∀ t : Nat, t ≤ 9 → m' (1614 + 72 * t) = m (1614 + 72 * t) ∨ m' (1614 + 72 * t) = 1)
theorem Ev.rf {m : Nat → Int} : Ev m m := ⟨fun _ _ => rfl, Int.le_refl _, ⟨Int.le_refl _, Int.le_refl _⟩, fun _ _ => ⟨rfl, rfl, Iff.rfl, id⟩, fun t a b => by omega, fun _ _ => Or.inl rfl⟩
theorem Ev.tr {a b c : Nat → Int} (h : Ev a b) (k : Ev b c) : Ev a c := by
  obtain ⟨h1, h2, h3, h4, h5, h6⟩ := h
  obtain ⟨k1, k2, k3, k4, k5, k6⟩ := k
  refine ⟨fun q hq => (k1 q hq).trans (h1 q hq), by omega, by omega, fun t ht => ?_, fun t x y => ?_, fun t ht => ?_⟩
  · obtain ⟨z1, z2, z3, z4⟩ := h4 t ht
    obtain ⟨w1, w2, w3, w4⟩ := k4 t (by omega)
    exact ⟨w1.trans z1, w2.trans z2, w3.trans z3, fun g => w4 (z4 g)⟩
  · by_cases g : (t : Int) < b 1
    · obtain ⟨w1, w2, w3, w4⟩ := k4 t g
      have := h5 t x g
      exact fun q => this (w3.mp q)
    · exact k5 t (by omega) y
  · rcases k6 t ht with w | w
    · rw [w]; exact h6 t ht
    · exact Or.inr w
theorem Ev.cng {m m' : Nat → Int} (h : Ev m m') (h0 : 0 ≤ m 1) : cnt (cngB m') (m' 1).toNat = cnt (cngB m) (m 1).toNat := by
  obtain ⟨h1, h2, h3, h4, h5, h6⟩ := h
  have e1 : cnt (cngB m') (m 1).toNat = cnt (cngB m) (m 1).toNat := cnt_congr _ (fun q hq => by
    obtain ⟨w1, w2, w3, w4⟩ := h4 q (by omega)
    unfold cngB
    by_cases g : m (258 + 14 * q) = 1
    · rw [decide_eq_true g, decide_eq_true (w3.mpr g)]
    · rw [decide_eq_false g, decide_eq_false (fun z => g (w3.mp z))])
  rw [← e1]
  have := cnt_none (p := cngB m') (N := (m 1).toNat) ((m' 1).toNat - (m 1).toNat) (fun j a b => decide_eq_false (h5 j (by omega) (by omega)))
  rw [show (m 1).toNat + ((m' 1).toNat - (m 1).toNat) = (m' 1).toNat by omega] at this
  exact this
theorem Inv.lt {m pool : Nat → Int} {B : Int} (h : Inv m pool B) {t : Nat} (h1 : (t : Int) < m 1) (h2 : ¬ m (258 + 14 * t) = 2) : m 2 < m 1 ∧ m 2 ≤ 89 ∧ m 4 ≤ 89 ∧ m 5 ≤ 89 := by
  obtain ⟨⟨hM, k0, k1, k2, k3, k4, k5, k7⟩, g2, g3, ⟨g4, g5, g6⟩, -⟩ := h
  have := cnt_lt (p := clsB m) (t := t) (decide_eq_false h2) (m 1).toNat (by omega)
  omega
theorem updM_in {m : Nat → Int} (hM : ∀ q, InR (m q)) {k : Nat} {v : Int} (hv : InR v) : ∀ q, InR (updI m k v q) := by
  intro q; unfold updI; split
  · exact hv
  · exact hM q
/-- a cell that Inv doesn't speak of -/
theorem Inv.out {m pool : Nat → Int} {B : Int} (h : Inv m pool B) {k : Nat} {v : Int} (hv : InR v) (hk : 7 ≤ k ∧ ¬ k = 8) (hk2 : k < 258 ∨ 1518 ≤ k) : Inv (updI m k v) pool B := by
  obtain ⟨⟨hM, k0, k1, k2, k3, k4, k5, k7⟩, g2, g3, g4, g5, g6⟩ := h
  have e : ∀ q, (q < 7 ∨ q = 8) → updI m k v q = m q := fun q hq => updI_n (by omega)
  have e2 : ∀ q, 258 ≤ q → q < 1518 → updI m k v q = m q := fun q a b => updI_n (by omega)
  have c : cnt (clsB (updI m k v)) (m 1).toNat = cnt (clsB m) (m 1).toNat := cnt_congr _ (fun q hq => by unfold clsB; rw [e2 _ (by omega) (by omega)])
  refine ⟨⟨updM_in hM hv, ?_⟩, ?_⟩
  · rw [e 0 (by omega), e 1 (by omega), e 2 (by omega), e 3 (by omega), e 4 (by omega), e 5 (by omega)]
    exact ⟨k0, k1, k2, k3, k4, k5, fun t ht => by rw [e2 _ (by omega) (by omega)]; exact k7 t ht⟩
  · rw [e 0 (by omega), e 1 (by omega), e 2 (by omega), e 4 (by omega), e 5 (by omega), e 6 (by omega), e 8 (by omega), c]
    refine ⟨g2, fun t ht => ?_, g4, g5, fun t j ht hj => by rw [e2 _ (by omega) (by omega)]; exact g6 t j ht hj⟩
    have := g3 t ht
    unfold thOk at this ⊢
    rw [e2 (258 + 14 * t) (by omega) (by omega), e2 (259 + 14 * t) (by omega) (by omega), e2 (260 + 14 * t) (by omega) (by omega), e 6 (by omega), e2 (261 + 14 * t) (by omega) (by omega), e2 (262 + 14 * t) (by omega) (by omega), e2 (263 + 14 * t) (by omega) (by omega), e 0 (by omega), e 8 (by omega)]
    exact this
theorem Ev.out {m : Nat → Int} {k : Nat} {v : Int} (hf : ¬ far k) (hk : 7 ≤ k) (hk2 : k < 258 ∨ 1518 ≤ k) (h1 : m 1 ≤ 90) (ha : k < 258 ∨ v = 1) : Ev m (updI m k v) := by
  have e : ∀ q, q < 7 → updI m k v q = m q := fun q hq => updI_n (by omega)
  refine ⟨fun q hq => updI_n (fun z => hf (z ▸ hq)), ?_, ?_, fun t ht => ?_, fun t a b => ?_, fun t ht => ?_⟩
  · rw [e 1 (by omega)]; exact Int.le_refl _
  · rw [e 2 (by omega), e 6 (by omega)]; exact ⟨Int.le_refl _, Int.le_refl _⟩
  · rw [updI_n (by omega), updI_n (by omega), updI_n (by omega)]
    exact ⟨rfl, rfl, Iff.rfl, id⟩
  · rw [e 1 (by omega)] at b; omega
  · by_cases c : 1614 + 72 * t = k
    · rcases ha with ha | ha
      · omega
      · rw [← c, updI_s]; exact Or.inr ha
    · rw [updI_n c]; exact Or.inl rfl
/-! a THING is MOVED -/
end mg_77

/-! ===== texts of steps, as they lie in a row ===== -/
theorem brk_ne {c : Int} (h1 : ¬ c = 123) (h2 : ¬ c = 125) : brk c = 0 := by unfold brk; rw [if_neg h1, if_neg h2]
/-- so many figures, from p to e -/
def numS (sr : Nat → Int) (p e k : Nat) : Prop := p < e ∧ e ≤ p + k ∧ ∀ j, p ≤ j → j < e → dgP (sr j)
def sgnS (sr : Nat → Int) (p e : Nat) : Prop := (sr p = 45 ∧ numS sr (p + 1) e 5) ∨ numS sr p e 5
def namS (sr : Nat → Int) (p e : Nat) : Prop := p < e ∧ e ≤ p + 7 ∧ (∀ j, p ≤ j → j < e → isLt (sr j)) ∧ (e = p + 7 ∨ ¬ isLt (sr e))
/-- what may stand behind a step -/
def endC (c : Int) : Prop := c = 59 ∨ c = 125 ∨ c = 0
/-- a step that is no ?, no ( and no ), from p to e -/
def stepT (sr : Nat → Int) (steps : Nat → Nat → Prop) (p e : Nat) : Prop :=
  (sr p = 43 ∧ (48 ≤ sr (p + 1) ∧ sr (p + 1) ≤ 55) ∧ sr (p + 2) = 61 ∧ sgnS sr (p + 3) e) ∨
  (sr p = 33 ∧ numS sr (p + 1) e 2) ∨
  (sr p = 97 ∧ ∃ q, namS sr (p + 1) q ∧ ((e = q ∧ ¬ sr q = 123) ∨ (sr q = 123 ∧ ∃ r, steps (q + 1) r ∧ q + 1 ≤ r ∧ sr r = 125 ∧ e = r + 1))) ∨
  (sr p = 120 ∧ namS sr (p + 1) e) ∨
  (sr p = 109 ∧ ∃ q, namS sr (p + 1) q ∧ sr q = 62 ∧ numS sr (q + 1) e 2) ∨
  (sr p = 107 ∧ dgP (sr (p + 1)) ∧ e = p + 2) ∨
  (sr p = 46 ∧ e = p + 1)
def stepQ (sr : Nat → Int) (steps : Nat → Nat → Prop) (p e : Nat) : Prop :=
  stepT sr steps p e ∨ (sr p = 63 ∧ (48 ≤ sr (p + 1) ∧ sr (p + 1) ≤ 55) ∧ sr (p + 2) = 60 ∧ ∃ q, sgnS sr (p + 3) q ∧ sr q = 58 ∧ stepT sr steps (q + 1) e)
/-- the steps of a closer, from p to E -/
def stsC (sr : Nat → Int) : Nat → Nat → Nat → Prop
  | 0, _, _ => False
  | n + 1, p, E => ∃ e, stepQ sr (stsC sr n) p e ∧ endC (sr e) ∧ (e = E ∨ (e < E ∧ sr e = 59 ∧ stsC sr n (e + 1) E))
/-- a step of a task; how many ( are then to be closed -/
def stepK (sr : Nat → Int) (steps : Nat → Nat → Prop) (o : Nat) (p e o' : Nat) : Prop :=
  (stepQ sr steps p e ∧ o' = o) ∨ (sr p = 40 ∧ e = p + 1 ∧ o' = o + 1) ∨ (sr p = 41 ∧ e = p + 1 ∧ o = o' + 1)
def stsT (sr : Nat → Int) : Nat → Nat → Nat → Nat → Prop
  | 0, _, _, _ => False
  | n + 1, o, p, E => ∃ e o', stepK sr (stsC sr n) o p e o' ∧ endC (sr e) ∧ (e = E ∨ (e < E ∧ sr e = 59 ∧ stsT sr n o' (e + 1) E))
theorem stepT_mono {sr : Nat → Int} {s1 s2 : Nat → Nat → Prop} (h : ∀ p e, s1 p e → s2 p e) {p e : Nat} (k : stepT sr s1 p e) : stepT sr s2 p e := by
  rcases k with k | k | ⟨k1, q, k2, k3⟩ | k | k | k | k
  · exact Or.inl k
  · exact Or.inr (Or.inl k)
  · refine Or.inr (Or.inr (Or.inl ⟨k1, q, k2, ?_⟩))
    rcases k3 with k3 | ⟨k3, r, k4, k5⟩
    · exact Or.inl k3
    · exact Or.inr ⟨k3, r, h _ _ k4, k5⟩
  · exact Or.inr (Or.inr (Or.inr (Or.inl k)))
  · exact Or.inr (Or.inr (Or.inr (Or.inr (Or.inl k))))
  · exact Or.inr (Or.inr (Or.inr (Or.inr (Or.inr (Or.inl k)))))
  · exact Or.inr (Or.inr (Or.inr (Or.inr (Or.inr (Or.inr k)))))
theorem stepQ_mono {sr : Nat → Int} {s1 s2 : Nat → Nat → Prop} (h : ∀ p e, s1 p e → s2 p e) {p e : Nat} (k : stepQ sr s1 p e) : stepQ sr s2 p e := by
  rcases k with k | ⟨k1, k2, k3, q, k4, k5, k6⟩
  · exact Or.inl (stepT_mono h k)
  · exact Or.inr ⟨k1, k2, k3, q, k4, k5, stepT_mono h k6⟩
theorem stepK_mono {sr : Nat → Int} {s1 s2 : Nat → Nat → Prop} (h : ∀ p e, s1 p e → s2 p e) {o p e o' : Nat} (k : stepK sr s1 o p e o') : stepK sr s2 o p e o' := by
  rcases k with ⟨k1, k2⟩ | k | k
  · exact Or.inl ⟨stepQ_mono h k1, k2⟩
  · exact Or.inr (Or.inl k)
  · exact Or.inr (Or.inr k)
theorem stsC_mono {sr : Nat → Int} : ∀ (n k : Nat), n ≤ k → ∀ p E, stsC sr n p E → stsC sr k p E
  | 0, _, _ => fun p E h => absurd h id
  | n + 1, 0, h => by omega
  | n + 1, k + 1, h => by
    intro p E g
    obtain ⟨e, g1, g2, g3⟩ := g
    refine ⟨e, stepQ_mono (fun a b => stsC_mono n k (by omega) a b) g1, g2, ?_⟩
    rcases g3 with g3 | ⟨g3, g4, g5⟩
    · exact Or.inl g3
    · exact Or.inr ⟨g3, g4, stsC_mono n k (by omega) _ _ g5⟩
theorem stsT_mono {sr : Nat → Int} : ∀ (n k : Nat), n ≤ k → ∀ o p E, stsT sr n o p E → stsT sr k o p E
  | 0, _, _ => fun o p E h => absurd h id
  | n + 1, 0, h => by omega
  | n + 1, k + 1, h => by
    intro o p E g
    obtain ⟨e, o', g1, g2, g3⟩ := g
    refine ⟨e, o', stepK_mono (fun a b => stsC_mono n k (by omega) a b) g1, g2, ?_⟩
    rcases g3 with g3 | ⟨g3, g4, g5⟩
    · exact Or.inl g3
    · exact Or.inr ⟨g3, g4, stsT_mono n k (by omega) _ _ _ g5⟩
/-! how far they go -/
theorem sgnS_lt {sr : Nat → Int} {p e : Nat} (h : sgnS sr p e) : p < e ∧ e ≤ p + 6 := by
  rcases h with ⟨_, h⟩ | h
  · obtain ⟨h1, h2, _⟩ := h; omega
  · obtain ⟨h1, h2, _⟩ := h; omega
theorem stepT_lt {sr : Nat → Int} {steps : Nat → Nat → Prop} {p e : Nat} (k : stepT sr steps p e) : p < e := by
  rcases k with ⟨_, _, _, k⟩ | ⟨_, k, _⟩ | ⟨_, q, k2, k3⟩ | ⟨_, k, _⟩ | ⟨_, q, k2, _, k3, _⟩ | ⟨_, _, k⟩ | ⟨_, k⟩
  · have := sgnS_lt k; omega
  · omega
  · have := k2.1
    rcases k3 with ⟨k3, _⟩ | ⟨_, r, _, k4, _, k5⟩ <;> omega
  · omega
  · have := k2.1; omega
  · omega
  · omega
theorem stepQ_lt {sr : Nat → Int} {steps : Nat → Nat → Prop} {p e : Nat} (k : stepQ sr steps p e) : p < e := by
  rcases k with k | ⟨_, _, _, q, k4, _, k6⟩
  · exact stepT_lt k
  · have := sgnS_lt k4
    have := stepT_lt k6
    omega
theorem stepK_lt {sr : Nat → Int} {steps : Nat → Nat → Prop} {o p e o' : Nat} (k : stepK sr steps o p e o') : p < e := by
  rcases k with ⟨k, _⟩ | ⟨_, k, _⟩ | ⟨_, k, _⟩
  · exact stepQ_lt k
  · omega
  · omega
theorem stsC_lt {sr : Nat → Int} {n p E : Nat} (k : stsC sr n p E) : p < E := by
  cases n with
  | zero => exact absurd k id
  | succ n =>
    obtain ⟨e, k1, _, k3⟩ := k
    have := stepQ_lt k1
    rcases k3 with k3 | ⟨k3, _⟩ <;> omega
theorem stsT_lt {sr : Nat → Int} {n o p E : Nat} (k : stsT sr n o p E) : p < E := by
  cases n with
  | zero => exact absurd k id
  | succ n =>
    obtain ⟨e, o', k1, _, k3⟩ := k
    have := stepK_lt k1
    rcases k3 with k3 | ⟨k3, _⟩ <;> omega
/-! the same text at another place -/
def likeAt (sr sr' : Nat → Int) (d p E : Nat) : Prop := ∀ j, p ≤ j → j ≤ E → sr' (j + d) = sr j
theorem likeAt.sub {sr sr' : Nat → Int} {d p E q e : Nat} (h : likeAt sr sr' d p E) (h1 : p ≤ q) (h2 : e ≤ E) : likeAt sr sr' d q e := fun j a b => h j (by omega) (by omega)
theorem numS_at {sr sr' : Nat → Int} {d p e k : Nat} (h : likeAt sr sr' d p e) (n : numS sr p e k) : numS sr' (p + d) (e + d) k := by
  obtain ⟨n1, n2, n3⟩ := n
  refine ⟨by omega, by omega, fun j a b => ?_⟩
  have := h (j - d) (by omega) (by omega)
  rw [show j - d + d = j by omega] at this
  rw [this]
  exact n3 _ (by omega) (by omega)
theorem sgnS_at {sr sr' : Nat → Int} {d p e : Nat} (h : likeAt sr sr' d p e) (n : sgnS sr p e) : sgnS sr' (p + d) (e + d) := by
  have hl := sgnS_lt n
  rcases n with ⟨n1, n2⟩ | n
  · refine Or.inl ⟨by rw [h p (by omega) (by omega)]; exact n1, ?_⟩
    have := numS_at (h.sub (q := p + 1) (e := e) (by omega) (by omega)) n2
    rw [show p + 1 + d = p + d + 1 by omega] at this
    exact this
  · exact Or.inr (numS_at h n)
theorem namS_at {sr sr' : Nat → Int} {d p e : Nat} (h : likeAt sr sr' d p e) (n : namS sr p e) : namS sr' (p + d) (e + d) := by
  obtain ⟨n1, n2, n3, n4⟩ := n
  refine ⟨by omega, by omega, fun j a b => ?_, ?_⟩
  · have := h (j - d) (by omega) (by omega)
    rw [show j - d + d = j by omega] at this
    rw [this]
    exact n3 _ (by omega) (by omega)
  · rcases n4 with n4 | n4
    · exact Or.inl (by omega)
    · exact Or.inr (by rw [h e (by omega) (by omega)]; exact n4)
theorem stepT_at {sr sr' : Nat → Int} {s1 s2 : Nat → Nat → Prop} {d p e : Nat} (h : likeAt sr sr' d p e) (hs : ∀ a b, p ≤ a → b ≤ e → s1 a b → s2 (a + d) (b + d)) (k : stepT sr s1 p e) : stepT sr' s2 (p + d) (e + d) := by
  have hlt := stepT_lt k
  have hp : sr' (p + d) = sr p := h p (by omega) (by omega)
  rcases k with ⟨k1, k2, k3, k4⟩ | ⟨k1, k2⟩ | ⟨k1, q, k2, k3⟩ | ⟨k1, k2⟩ | ⟨k1, q, k2, k3, k4⟩ | ⟨k1, k2, k3⟩ | ⟨k1, k2⟩
  · have hl := sgnS_lt k4
    have h1 : sr' (p + d + 1) = sr (p + 1) := by rw [show p + d + 1 = p + 1 + d by omega]; exact h _ (by omega) (by omega)
    have h2 : sr' (p + d + 2) = sr (p + 2) := by rw [show p + d + 2 = p + 2 + d by omega]; exact h _ (by omega) (by omega)
    refine Or.inl ⟨hp.trans k1, by rw [h1]; exact k2, h2.trans k3, ?_⟩
    rw [show p + d + 3 = p + 3 + d by omega]
    exact sgnS_at (h.sub (by omega) (by omega)) k4
  · refine Or.inr (Or.inl ⟨hp.trans k1, ?_⟩)
    rw [show p + d + 1 = p + 1 + d by omega]
    exact numS_at (h.sub (by omega) (by omega)) k2
  · have hn := k2.1
    have hqe : q ≤ e := by rcases k3 with ⟨k3, _⟩ | ⟨_, r, _, k4, _, k5⟩ <;> omega
    refine Or.inr (Or.inr (Or.inl ⟨hp.trans k1, q + d, ?_, ?_⟩))
    · rw [show p + d + 1 = p + 1 + d by omega]
      exact namS_at (h.sub (by omega) (by omega)) k2
    · rcases k3 with ⟨rfl, k3⟩ | ⟨k3, r, k4, k5, k6, k7⟩
      · exact Or.inl ⟨rfl, by rw [h e (by omega) (by omega)]; exact k3⟩
      · refine Or.inr ⟨(h q (by omega) (by omega)).trans k3, r + d, ?_, by omega, (h r (by omega) (by omega)).trans k6, by omega⟩
        rw [show q + d + 1 = q + 1 + d by omega]
        exact hs _ _ (by omega) (by omega) k4
  · refine Or.inr (Or.inr (Or.inr (Or.inl ⟨hp.trans k1, ?_⟩)))
    rw [show p + d + 1 = p + 1 + d by omega]
    exact namS_at (h.sub (by omega) (by omega)) k2
  · have hn := k2.1
    have hm := k4.1
    refine Or.inr (Or.inr (Or.inr (Or.inr (Or.inl ⟨hp.trans k1, q + d, ?_, (h q (by omega) (by omega)).trans k3, ?_⟩))))
    · rw [show p + d + 1 = p + 1 + d by omega]
      exact namS_at (h.sub (by omega) (by omega)) k2
    · rw [show q + d + 1 = q + 1 + d by omega]
      exact numS_at (h.sub (by omega) (by omega)) k4
  · refine Or.inr (Or.inr (Or.inr (Or.inr (Or.inr (Or.inl ⟨hp.trans k1, ?_, by omega⟩)))))
    rw [show p + d + 1 = p + 1 + d by omega, h _ (by omega) (by omega)]
    exact k2
  · exact Or.inr (Or.inr (Or.inr (Or.inr (Or.inr (Or.inr ⟨hp.trans k1, by omega⟩)))))
theorem stepQ_at {sr sr' : Nat → Int} {s1 s2 : Nat → Nat → Prop} {d p e : Nat} (h : likeAt sr sr' d p e) (hs : ∀ a b, p ≤ a → b ≤ e → s1 a b → s2 (a + d) (b + d)) (k : stepQ sr s1 p e) : stepQ sr' s2 (p + d) (e + d) := by
  rcases k with k | ⟨k1, k2, k3, q, k4, k5, k6⟩
  · exact Or.inl (stepT_at h hs k)
  · have hl := sgnS_lt k4
    have hm := stepT_lt k6
    have h1 : sr' (p + d + 1) = sr (p + 1) := by rw [show p + d + 1 = p + 1 + d by omega]; exact h _ (by omega) (by omega)
    have h2 : sr' (p + d + 2) = sr (p + 2) := by rw [show p + d + 2 = p + 2 + d by omega]; exact h _ (by omega) (by omega)
    refine Or.inr ⟨(h p (by omega) (by omega)).trans k1, by rw [h1]; exact k2, h2.trans k3, q + d, ?_, (h q (by omega) (by omega)).trans k5, ?_⟩
    · rw [show p + d + 3 = p + 3 + d by omega]
      exact sgnS_at (h.sub (by omega) (by omega)) k4
    · rw [show q + d + 1 = q + 1 + d by omega]
      exact stepT_at (h.sub (by omega) (by omega)) (fun a b x y => hs a b (by omega) (by omega)) k6
theorem stsC_at {sr sr' : Nat → Int} {d : Nat} : ∀ (n p E : Nat), likeAt sr sr' d p E → stsC sr n p E → stsC sr' n (p + d) (E + d)
  | 0, _, _, _, k => absurd k id
  | n + 1, p, E, h, k => by
    obtain ⟨e, k1, k2, k3⟩ := k
    have hl := stepQ_lt k1
    have he : e ≤ E := by rcases k3 with k3 | ⟨k3, _⟩ <;> omega
    refine ⟨e + d, stepQ_at (h.sub (by omega) he) (fun a b x y z => stsC_at n a b (h.sub (by omega) (by omega)) z) k1, by rw [h e (by omega) he]; exact k2, ?_⟩
    rcases k3 with k3 | ⟨k3, k4, k5⟩
    · exact Or.inl (by omega)
    · refine Or.inr ⟨by omega, (h e (by omega) he).trans k4, ?_⟩
      rw [show e + d + 1 = e + 1 + d by omega]
      exact stsC_at n (e + 1) E (h.sub (by omega) (by omega)) k5
theorem stsT_at {sr sr' : Nat → Int} {d : Nat} : ∀ (n o p E : Nat), likeAt sr sr' d p E → stsT sr n o p E → stsT sr' n o (p + d) (E + d)
  | 0, _, _, _, _, k => absurd k id
  | n + 1, o, p, E, h, k => by
    obtain ⟨e, o', k1, k2, k3⟩ := k
    have hl := stepK_lt k1
    have he : e ≤ E := by rcases k3 with k3 | ⟨k3, _⟩ <;> omega
    have hp : sr' (p + d) = sr p := h p (by omega) (by omega)
    refine ⟨e + d, o', ?_, by rw [h e (by omega) he]; exact k2, ?_⟩
    · rcases k1 with ⟨k1, z⟩ | ⟨k1, z1, z2⟩ | ⟨k1, z1, z2⟩
      · exact Or.inl ⟨stepQ_at (h.sub (by omega) he) (fun a b x y z => stsC_at n a b (h.sub (by omega) (by omega)) z) k1, z⟩
      · exact Or.inr (Or.inl ⟨hp.trans k1, by omega, z2⟩)
      · exact Or.inr (Or.inr ⟨hp.trans k1, by omega, z2⟩)
    · rcases k3 with k3 | ⟨k3, k4, k5⟩
      · exact Or.inl (by omega)
      · refine Or.inr ⟨by omega, (h e (by omega) he).trans k4, ?_⟩
        rw [show e + d + 1 = e + 1 + d by omega]
        exact stsT_at n o' (e + 1) E (h.sub (by omega) (by omega)) k5
/-! what scans make of them -/
/-- from p to e, at a depth from lo on, no scan stops, and the depth is the same behind it -/
def Skip (sr : Nat → Int) (lo : Int) (p e : Nat) : Prop := p ≤ e ∧ ∀ (n : Nat) (u : Int), lo ≤ u → behL sr ((e - p) + n) p u = behL sr n e u ∧ (1 ≤ u → brL sr ((e - p) + n) p u = brL sr n e u ∧ (brStop sr n e u → brStop sr ((e - p) + n) p u))
theorem Skip.rf {sr : Nat → Int} {lo : Int} {p : Nat} : Skip sr lo p p := ⟨Nat.le_refl _, fun n u _ => by rw [Nat.sub_self, Nat.zero_add]; exact ⟨rfl, fun _ => ⟨rfl, id⟩⟩⟩
theorem Skip.tr {sr : Nat → Int} {lo : Int} {p q e : Nat} (a : Skip sr lo p q) (b : Skip sr lo q e) : Skip sr lo p e := by
  obtain ⟨a1, a2⟩ := a
  obtain ⟨b1, b2⟩ := b
  refine ⟨by omega, fun n u hu => ?_⟩
  obtain ⟨c1, c2⟩ := a2 ((e - q) + n) u hu
  obtain ⟨d1, d2⟩ := b2 n u hu
  rw [show (e - p) + n = (q - p) + ((e - q) + n) by omega]
  refine ⟨c1.trans d1, fun h => ⟨(c2 h).1.trans (d2 h).1, fun s => (c2 h).2 ((d2 h).2 s)⟩⟩
theorem Skip.up {sr : Nat → Int} {lo lo' : Int} {p e : Nat} (a : Skip sr lo p e) (h : lo ≤ lo') : Skip sr lo' p e := ⟨a.1, fun n u hu => a.2 n u (by omega)⟩
theorem Skip.ch {sr : Nat → Int} {lo : Int} {p : Nat} (h1 : ¬ sr p = 59) (h2 : ¬ sr p = 123) (h3 : ¬ sr p = 125) : Skip sr lo p (p + 1) := by
  refine ⟨by omega, fun n u hu => ?_⟩
  rw [show p + 1 - p + n = n + 1 by omega]
  have hb := brk_ne h2 h3
  refine ⟨?_, fun h => ⟨?_, fun s => ?_⟩⟩
  · rw [behL, if_pos (Or.inr h1), hb, Int.add_zero]
  · rw [brL, if_pos (by omega), hb, Int.add_zero]
  · unfold brStop
    intro _
    rw [hb, Int.add_zero]; exact s
theorem Skip.semi {sr : Nat → Int} {p : Nat} (h1 : sr p = 59) : Skip sr 1 p (p + 1) := by
  refine ⟨by omega, fun n u hu => ?_⟩
  rw [show p + 1 - p + n = n + 1 by omega]
  have hb : brk (sr p) = 0 := by rw [h1]; decide
  refine ⟨?_, fun h => ⟨?_, fun s => ?_⟩⟩
  · rw [behL, if_pos (Or.inl (by omega)), hb, Int.add_zero]
  · rw [brL, if_pos (by omega), hb, Int.add_zero]
  · unfold brStop
    intro _
    rw [hb, Int.add_zero]; exact s
theorem Skip.brace {sr : Nat → Int} {q r : Nat} (h1 : sr q = 123) (a : Skip sr 1 (q + 1) r) (h2 : sr r = 125) : Skip sr 0 q (r + 1) := by
  obtain ⟨a1, a2⟩ := a
  refine ⟨by omega, fun n u hu => ?_⟩
  have b1 : brk (sr q) = 1 := by rw [h1]; decide
  have b2 : brk (sr r) = -1 := by rw [h2]; decide
  rw [show r + 1 - q + n = ((r - (q + 1)) + (n + 1)) + 1 by omega]
  obtain ⟨c1, c2⟩ := a2 (n + 1) (u + 1) (by omega)
  obtain ⟨c3, c4⟩ := c2 (by omega)
  refine ⟨?_, fun h => ⟨?_, fun s => ?_⟩⟩
  · rw [behL, if_pos (Or.inr (by rw [h1]; decide)), b1, c1, behL, if_pos (Or.inl (by omega)), b2, show u + 1 + -1 = u by omega]
  · rw [brL, if_pos (by omega), b1, c3, brL, if_pos (by omega), b2, show u + 1 + -1 = u by omega]
  · unfold brStop
    intro _
    rw [b1]
    refine c4 ?_
    unfold brStop
    intro _
    rw [b2, show u + 1 + -1 = u by omega]
    exact s
theorem Skip.run {sr : Nat → Int} {lo : Int} : ∀ (n p e : Nat), p + n = e → (∀ j, p ≤ j → j < e → ¬ sr j = 59 ∧ ¬ sr j = 123 ∧ ¬ sr j = 125) → Skip sr lo p e
  | 0, p, e, h, _ => by
    obtain rfl : p = e := by omega
    exact Skip.rf
  | n + 1, p, e, h, k => by
    obtain ⟨k1, k2, k3⟩ := k p (by omega) (by omega)
    exact (Skip.ch k1 k2 k3).tr (Skip.run n (p + 1) e (by omega) (fun j a b => k j (by omega) b))
theorem numS_skip {sr : Nat → Int} {lo : Int} {p e k : Nat} (h : numS sr p e k) : Skip sr lo p e := by
  obtain ⟨h1, h2, h3⟩ := h
  exact Skip.run (e - p) p e (by omega) (fun j a b => by have := h3 j a b; omega)
theorem sgnS_skip {sr : Nat → Int} {lo : Int} {p e : Nat} (h : sgnS sr p e) : Skip sr lo p e := by
  rcases h with ⟨h1, h2⟩ | h
  · exact (Skip.ch (by omega) (by omega) (by omega)).tr (numS_skip h2)
  · exact numS_skip h
theorem namS_skip {sr : Nat → Int} {lo : Int} {p e : Nat} (h : namS sr p e) : Skip sr lo p e := by
  obtain ⟨h1, h2, h3, _⟩ := h
  exact Skip.run (e - p) p e (by omega) (fun j a b => by have := h3 j a b; unfold isLt at this; omega)
theorem stepT_skip {sr : Nat → Int} {steps : Nat → Nat → Prop} {p e : Nat} (hs : ∀ a b, steps a b → Skip sr 1 a b) (k : stepT sr steps p e) : Skip sr 0 p e := by
  rcases k with ⟨k1, k2, k3, k4⟩ | ⟨k1, k2⟩ | ⟨k1, q, k2, k3⟩ | ⟨k1, k2⟩ | ⟨k1, q, k2, k3, k4⟩ | ⟨k1, k2, k3⟩ | ⟨k1, k2⟩
  · exact ((Skip.ch (by omega) (by omega) (by omega)).tr ((Skip.ch (by omega) (by omega) (by omega)).tr (Skip.ch (p := p + 2) (by omega) (by omega) (by omega)))).tr (sgnS_skip k4)
  · exact (Skip.ch (by omega) (by omega) (by omega)).tr (numS_skip k2)
  · refine ((Skip.ch (by omega) (by omega) (by omega)).tr (namS_skip k2)).tr ?_
    rcases k3 with ⟨rfl, _⟩ | ⟨k3, r, k4, k5, k6, rfl⟩
    · exact Skip.rf
    · exact Skip.brace k3 (hs _ _ k4) k6
  · exact (Skip.ch (by omega) (by omega) (by omega)).tr (namS_skip k2)
  · exact ((Skip.ch (by omega) (by omega) (by omega)).tr (namS_skip k2)).tr ((Skip.ch (by omega) (by omega) (by omega)).tr (numS_skip k4))
  · subst k3
    exact (Skip.ch (by omega) (by omega) (by omega)).tr (Skip.ch (by omega) (by omega) (by omega))
  · subst k2
    exact Skip.ch (by omega) (by omega) (by omega)
theorem stepQ_skip {sr : Nat → Int} {steps : Nat → Nat → Prop} {p e : Nat} (hs : ∀ a b, steps a b → Skip sr 1 a b) (k : stepQ sr steps p e) : Skip sr 0 p e := by
  rcases k with k | ⟨k1, k2, k3, q, k4, k5, k6⟩
  · exact stepT_skip hs k
  · exact (((Skip.ch (by omega) (by omega) (by omega)).tr ((Skip.ch (by omega) (by omega) (by omega)).tr (Skip.ch (p := p + 2) (by omega) (by omega) (by omega)))).tr (sgnS_skip k4)).tr ((Skip.ch (by omega) (by omega) (by omega)).tr (stepT_skip hs k6))
theorem stsC_skip {sr : Nat → Int} : ∀ (n p E : Nat), stsC sr n p E → Skip sr 1 p E
  | 0, _, _, k => absurd k id
  | n + 1, p, E, k => by
    obtain ⟨e, k1, k2, k3⟩ := k
    have h1 := (stepQ_skip (fun a b => stsC_skip n a b) k1).up (lo' := 1) (by omega)
    rcases k3 with rfl | ⟨k3, k4, k5⟩
    · exact h1
    · exact (h1.tr (Skip.semi k4)).tr (stsC_skip n _ _ k5)
theorem stepK_skip {sr : Nat → Int} {n o p e o' : Nat} (k : stepK sr (stsC sr n) o p e o') : Skip sr 0 p e := by
  rcases k with ⟨k, _⟩ | ⟨k1, rfl, _⟩ | ⟨k1, rfl, _⟩
  · exact stepQ_skip (fun a b => stsC_skip n a b) k
  · exact Skip.ch (by omega) (by omega) (by omega)
  · exact Skip.ch (by omega) (by omega) (by omega)
/-- where the next step begins -/
theorem Skip.beh {sr : Nat → Int} {p e E : Nat} (a : Skip sr 0 p e) (he : e ≤ E) (h : e = E ∨ sr e = 59) : behL sr (E - p) p 0 = e := by
  have z := (a.2 (E - e) 0 (Int.le_refl _)).1
  rw [show e - p + (E - e) = E - p by have := a.1; omega] at z
  rw [z]
  cases hk : E - e with
  | zero => unfold behL; rfl
  | succ k =>
    unfold behL
    rw [if_neg (by rcases h with h | h <;> omega)]
/-- the braces of a closer -/
theorem Skip.br {sr : Nat → Int} {p r n : Nat} (a : Skip sr 1 p r) (h : sr r = 125) (hn : r - p + 1 ≤ n) : brL sr (n + 1) p 1 = r + 1 ∧ brStop sr n p 1 := by
  have b2 : brk (sr r) = -1 := by rw [h]; decide
  have hl := a.1
  constructor
  · obtain ⟨-, z⟩ := a.2 (n + 1 - (r - p)) 1 (Int.le_refl _)
    obtain ⟨z1, -⟩ := z (Int.le_refl _)
    rw [show r - p + (n + 1 - (r - p)) = n + 1 by omega] at z1
    rw [z1, show n + 1 - (r - p) = (n - 1 - (r - p)) + 1 + 1 by omega, brL, if_pos (by decide), b2, brL, if_neg (by decide)]
  · obtain ⟨-, w⟩ := a.2 (n - (r - p)) 1 (Int.le_refl _)
    obtain ⟨-, w2⟩ := w (Int.le_refl _)
    rw [show r - p + (n - (r - p)) = n by omega] at w2
    refine w2 ?_
    rw [show n - (r - p) = (n - 1 - (r - p)) + 1 by omega]
    unfold brStop
    intro _
    rw [b2]
    cases n - 1 - (r - p) with
    | zero => unfold brStop; decide
    | succ k => unfold brStop; intro h; exact absurd h (by decide)
/-! numbers -/
theorem stops_run {sr : Nat → Int} : ∀ (n p e : Nat), p ≤ e → e ≤ p + n → (∀ j, p ≤ j → j < e → dgP (sr j)) → ¬ dgP (sr e) → stopsBy sr n p
  | 0, p, e, h1, h2, h3, h4 => by
    obtain rfl : p = e := by omega
    exact h4
  | n + 1, p, e, h1, h2, h3, h4 => by
    unfold stopsBy
    intro hd
    by_cases c : p = e
    · subst c; exact absurd hd h4
    · exact stops_run n (p + 1) e (by omega) (by omega) (fun j a b => h3 j (by omega) b) h4
/-- ten to so many -/
def tenP : Nat → Int
  | 0 => 1
  | n + 1 => 10 * tenP n
theorem tenP_1 (n : Nat) : 1 ≤ tenP n := by
  induction n with
  | zero => exact Int.le_refl _
  | succ n ih => unfold tenP; omega
theorem naL_b {sr : Nat → Int} : ∀ (k n p e : Nat) (v b : Int), p ≤ e → e ≤ p + k → (∀ j, p ≤ j → j < e → dgP (sr j)) → ¬ dgP (sr e) → 0 ≤ v → v < b → 0 ≤ naL sr n p v ∧ naL sr n p v < b * tenP k
  | k, 0, p, e, v, b, h1, h2, h3, h4, h5, h6 => by
    have := tenP_1 k
    unfold naL
    refine ⟨h5, Int.lt_of_lt_of_le h6 ?_⟩
    have := Int.mul_le_mul_of_nonneg_left (c := b) this (by omega)
    omega
  | 0, n + 1, p, e, v, b, h1, h2, h3, h4, h5, h6 => by
    obtain rfl : p = e := by omega
    unfold naL
    rw [if_neg h4]
    unfold tenP
    omega
  | k + 1, n + 1, p, e, v, b, h1, h2, h3, h4, h5, h6 => by
    unfold naL
    split
    · rename_i hd
      by_cases c : p = e
      · subst c; exact absurd hd h4
      · have z := naL_b k n (p + 1) e (10 * v + sr p - 48) (b * 10) (by omega) (by omega) (fun j a b => h3 j (by omega) b) h4 (by omega) (by omega)
        refine ⟨z.1, ?_⟩
        have e0 : tenP (k + 1) = 10 * tenP k := rfl
        have e1 : b * tenP (k + 1) = b * 10 * tenP k := by rw [e0, ← Int.mul_assoc]
        rw [e1]; exact z.2
    · have := tenP_1 (k + 1)
      refine ⟨h5, Int.lt_of_lt_of_le h6 ?_⟩
      have := Int.mul_le_mul_of_nonneg_left (c := b) this (by omega)
      omega
theorem endC_nd {c : Int} (h : endC c) : ¬ dgP c := by unfold endC at h; unfold dgP; omega
/-- a number ends where its figures end: how it is read -/
theorem num_dig {sr : Nat → Int} {p e k : Nat} (h : numS sr p e k) (hk : k ≤ 5) (he : ¬ dgP (sr e)) : digR sr p 20 ∧ (0 ≤ numAt sr 20 p ∧ numAt sr 20 p < 100000) := by
  obtain ⟨h1, h2, h3⟩ := h
  have hp := h3 p (Nat.le_refl _) h1
  have hm : ¬ sr p = 45 := by unfold dgP at hp; omega
  refine ⟨⟨by decide, by rw [if_neg hm]; exact stops_run 20 p e (by omega) (by omega) h3 he⟩, ?_⟩
  have z := naL_b (sr := sr) 5 (20 + 1) p e 0 1 (by omega) (by omega) h3 he (Int.le_refl _) (by decide)
  unfold numAt
  rw [if_neg hm]
  have e1 : (1 : Int) * tenP 5 = 100000 := by decide
  rw [e1] at z
  exact z
theorem sgn_dig {sr : Nat → Int} {p e : Nat} (h : sgnS sr p e) (he : ¬ dgP (sr e)) : digR sr p 20 ∧ (-100000 < numAt sr 20 p ∧ numAt sr 20 p < 100000) := by
  rcases h with ⟨h0, h1, h2, h3⟩ | h
  · refine ⟨⟨by decide, by rw [if_pos h0]; exact stops_run 20 (p + 1) e (by omega) (by omega) h3 he⟩, ?_⟩
    have z := naL_b (sr := sr) 5 (20 + 1) (p + 1) e 0 1 (by omega) (by omega) h3 he (Int.le_refl _) (by decide)
    unfold numAt
    rw [if_pos h0]
    have e1 : (1 : Int) * tenP 5 = 100000 := by decide
    rw [e1] at z
    omega
  · obtain ⟨a, b⟩ := num_dig h (Nat.le_refl _) he
    exact ⟨a, by omega, b.2⟩
/-- a name ends where its letters end -/
theorem nam_end {sr : Nat → Int} {p e : Nat} (h : namS sr p e) : neL sr 7 p = e := by
  obtain ⟨h1, h2, h3, h4⟩ := h
  have key : ∀ n k : Nat, p ≤ k → k ≤ e → k + n = p + 7 → neL sr n k = e := by
    intro n
    induction n with
    | zero =>
      intro k a b c
      unfold neL; omega
    | succ n ih =>
      intro k a b c
      unfold neL
      by_cases g : k = e
      · subst g
        rw [if_neg (show ¬ (97 ≤ sr k ∧ sr k ≤ 122) from by rcases h4 with h4 | h4; omega; exact h4)]
      · have := h3 k a (by omega)
        rw [if_pos (show 97 ≤ sr k ∧ sr k ≤ 122 from this)]
        exact ih (k + 1) (by omega) (by omega) (by omega)
  exact key 7 p (Nat.le_refl _) (by omega) rfl

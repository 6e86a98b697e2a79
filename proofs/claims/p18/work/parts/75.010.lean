section mg_75
end mg_75
section mg_76
/-! ===== texts of steps, as they lie in a row ===== -/
theorem brk_ne {c : Int} (h1 : ¬ c = 123) (h2 : ¬ c = 125) : brk c = 0 := by unfold brk; rw [if_neg h1, if_neg h2]
/-- so many figures, from p to e -/
def numS (sr : Nat → Int) (p e k : Nat) : Prop := p < e ∧ e ≤ p + k ∧ ∀ j, p ≤ j → j < e → dgP (sr j)
def sgnS (sr : Nat → Int) (p e : Nat) : Prop := (sr p = 45 ∧ numS sr (p + 1) e 5) ∨ numS sr p e 5
def namS (sr : Nat → Int) (p e : Nat) : Prop := p < e ∧ e ≤ p + 7 ∧ (∀ j, p ≤ j → j < e → isLt (sr j)) ∧ (e = p + 7 ∨ ¬ isLt (sr e))
/-- what may stand behind a step -/
def endC (c : Int) : Prop := c = 59 ∨ c = 125 ∨ c = 0
/-- a step that is no ?, no ( and no ), from p to e -/
def stepT (sr : Nat → Int) (steps : Nat → Nat → Prop) (p e : Nat) : Prop :=
  (sr p = 43 ∧ (48 ≤ sr (p + 1) ∧ sr (p + 1) ≤ 55) ∧ sr (p + 2) = 61 ∧ sgnS sr (p + 3) e) ∨
  (sr p = 33 ∧ numS sr (p + 1) e 2) ∨
  (sr p = 97 ∧ ∃ q, namS sr (p + 1) q ∧ ((e = q ∧ ¬ sr q = 123) ∨ (sr q = 123 ∧ ∃ r, steps (q + 1) r ∧ q + 1 ≤ r ∧ sr r = 125 ∧ e = r + 1))) ∨
  (sr p = 120 ∧ namS sr (p + 1) e) ∨
  (sr p = 109 ∧ ∃ q, namS sr (p + 1) q ∧ sr q = 62 ∧ numS sr (q + 1) e 2) ∨
  (sr p = 107 ∧ dgP (sr (p + 1)) ∧ e = p + 2) ∨
  (sr p = 46 ∧ e = p + 1)
def stepQ (sr : Nat → Int) (steps : Nat → Nat → Prop) (p e : Nat) : Prop :=
  stepT sr steps p e ∨ (sr p = 63 ∧ (48 ≤ sr (p + 1) ∧ sr (p + 1) ≤ 55) ∧ sr (p + 2) = 60 ∧ ∃ q, sgnS sr (p + 3) q ∧ sr q = 58 ∧ stepT sr steps (q + 1) e)
/-- the steps of a closer, from p to E -/
def stsC (sr : Nat → Int) : Nat → Nat → Nat → Prop
  | 0, _, _ => False
  | n + 1, p, E => ∃ e, stepQ sr (stsC sr n) p e ∧ endC (sr e) ∧ (e = E ∨ (e < E ∧ sr e = 59 ∧ stsC sr n (e + 1) E))
/-- a step of a task; how many ( are then to be closed -/
def stepK (sr : Nat → Int) (steps : Nat → Nat → Prop) (o : Nat) (p e o' : Nat) : Prop :=
  (stepQ sr steps p e ∧ o' = o) ∨ (sr p = 40 ∧ e = p + 1 ∧ o' = o + 1) ∨ (sr p = 41 ∧ e = p + 1 ∧ o = o' + 1)
def stsT (sr : Nat → Int) : Nat → Nat → Nat → Nat → Prop
  | 0, _, _, _ => False
  | n + 1, o, p, E => ∃ e o', stepK sr (stsC sr n) o p e o' ∧ endC (sr e) ∧ (e = E ∨ (e < E ∧ sr e = 59 ∧ stsT sr n o' (e + 1) E))
theorem stepT_mono {sr : Nat → Int} {s1 s2 : Nat → Nat → Prop} (h : ∀ p e, s1 p e → s2 p e) {p e : Nat} (k : stepT sr s1 p e) : stepT sr s2 p e := by
  rcases k with k | k | ⟨k1, q, k2, k3⟩ | k | k | k | k
  · exact Or.inl k
  · exact Or.inr (Or.inl k)
  · refine Or.inr (Or.inr (Or.inl ⟨k1, q, k2, ?_⟩))
    rcases k3 with k3 | ⟨k3, r, k4, k5⟩
    · exact Or.inl k3
    · exact Or.inr ⟨k3, r, h _ _ k4, k5⟩
  · exact Or.inr (Or.inr (Or.inr (Or.inl k)))
  · exact Or.inr (Or.inr (Or.inr (Or.inr (Or.inl k))))
  · exact Or.inr (Or.inr (Or.inr (Or.inr (Or.inr (Or.inl k)))))
  · exact Or.inr (Or.inr (Or.inr (Or.inr (Or.inr (Or.inr k)))))
theorem stepQ_mono {sr : Nat → Int} {s1 s2 : Nat → Nat → Prop} (h : ∀ p e, s1 p e → s2 p e) {p e : Nat} (k : stepQ sr s1 p e) : stepQ sr s2 p e := by
  rcases k with k | ⟨k1, k2, k3, q, k4, k5, k6⟩
  · exact Or.inl (stepT_mono h k)
  · exact Or.inr ⟨k1, k2, k3, q, k4, k5, stepT_mono h k6⟩
theorem stepK_mono {sr : Nat → Int} {s1 s2 : Nat → Nat → Prop} (h : ∀ p e, s1 p e → s2 p e) {o p e o' : Nat} (k : stepK sr s1 o p e o') : stepK sr s2 o p e o' := by
  rcases k with ⟨k1, k2⟩ | k | k
  · exact Or.inl ⟨stepQ_mono h k1, k2⟩
  · exact Or.inr (Or.inl k)
  · exact Or.inr (Or.inr k)
theorem stsC_mono {sr : Nat → Int} : ∀ (n k : Nat), n ≤ k → ∀ p E, stsC sr n p E → stsC sr k p E
  | 0, _, _ => fun p E h => absurd h id
  | n + 1, 0, h => by omega
  | n + 1, k + 1, h => by
    intro p E g
    obtain ⟨e, g1, g2, g3⟩ := g
    refine ⟨e, stepQ_mono (fun a b => stsC_mono n k (by omega) a b) g1, g2, ?_⟩
    rcases g3 with g3 | ⟨g3, g4, g5⟩
    · exact Or.inl g3
    · exact Or.inr ⟨g3, g4, stsC_mono n k (by omega) _ _ g5⟩
theorem stsT_mono {sr : Nat → Int} : ∀ (n k : Nat), n ≤ k → ∀ o p E, stsT sr n o p E → stsT sr k o p E
  | 0, _, _ => fun o p E h => absurd h id
  | n + 1, 0, h => by omega
  | n + 1, k + 1, h => by
    intro o p E g
    obtain ⟨e, o', g1, g2, g3⟩ := g
    refine ⟨e, o', stepK_mono (fun a b => stsC_mono n k (by omega) a b) g1, g2, ?_⟩
    rcases g3 with g3 | ⟨g3, g4, g5⟩
    · exact Or.inl g3
    · exact Or.inr ⟨g3, g4, stsT_mono n k (by omega) _ _ _ g5⟩
/-! how far they go -/
theorem sgnS_lt {sr : Nat → Int} {p e : Nat} (h : sgnS sr p e) : p < e ∧ e ≤ p + 6 := by
  rcases h with ⟨_, h⟩ | h
  · obtain ⟨h1, h2, _⟩ := h; omega
  · obtain ⟨h1, h2, _⟩ := h; omega
theorem stepT_lt {sr : Nat → Int} {steps : Nat → Nat → Prop} {p e : Nat} (k : stepT sr steps p e) : p < e := by
  rcases k with ⟨_, _, _, k⟩ | ⟨_, k, _⟩ | ⟨_, q, k2, k3⟩ | ⟨_, k, _⟩ | ⟨_, q, k2, _, k3, _⟩ | ⟨_, _, k⟩ | ⟨_, k⟩
  · have := sgnS_lt k; omega
  · omega
  · have := k2.1
    rcases k3 with ⟨k3, _⟩ | ⟨_, r, _, k4, _, k5⟩ <;> omega
  · omega
  · have := k2.1; omega
  · omega
  · omega
theorem stepQ_lt {sr : Nat → Int} {steps : Nat → Nat → Prop} {p e : Nat} (k : stepQ sr steps p e) : p < e := by
  rcases k with k | ⟨_, _, _, q, k4, _, k6⟩
  · exact stepT_lt k
  · have := sgnS_lt k4
    have := stepT_lt k6
    omega
theorem stepK_lt {sr : Nat → Int} {steps : Nat → Nat → Prop} {o p e o' : Nat} (k : stepK sr steps o p e o') : p < e := by
  rcases k with ⟨k, _⟩ | ⟨_, k, _⟩ | ⟨_, k, _⟩
  · exact stepQ_lt k
  · omega
  · omega
theorem stsT_lt {sr : Nat → Int} {n o p E : Nat} (k : stsT sr n o p E) : p < E := by
  cases n with
  | zero => exact absurd k id
  | succ n =>
    obtain ⟨e, o', k1, _, k3⟩ := k
    have := stepK_lt k1
    rcases k3 with k3 | ⟨k3, _⟩ <;> omega
/-! the same text at another place -/
def likeAt (sr sr' : Nat → Int) (d p E : Nat) : Prop := ∀ j, p ≤ j → j ≤ E → sr' (j + d) = sr j
theorem likeAt.sub {sr sr' : Nat → Int} {d p E q e : Nat} (h : likeAt sr sr' d p E) (h1 : p ≤ q) (h2 : e ≤ E) : likeAt sr sr' d q e := fun j a b => h j (by omega) (by omega)
theorem numS_at {sr sr' : Nat → Int} {d p e k : Nat} (h : likeAt sr sr' d p e) (n : numS sr p e k) : numS sr' (p + d) (e + d) k := by
  obtain ⟨n1, n2, n3⟩ := n
  refine ⟨by omega, by omega, fun j a b => ?_⟩
  have := h (j - d) (by omega) (by omega)
  rw [show j - d + d = j by omega] at this
  rw [this]
  exact n3 _ (by omega) (by omega)
theorem sgnS_at {sr sr' : Nat → Int} {d p e : Nat} (h : likeAt sr sr' d p e) (n : sgnS sr p e) : sgnS sr' (p + d) (e + d) := by
  have hl := sgnS_lt n
  rcases n with ⟨n1, n2⟩ | n
  · refine Or.inl ⟨by rw [h p (by omega) (by omega)]; exact n1, ?_⟩
    have := numS_at (h.sub (q := p + 1) (e := e) (by omega) (by omega)) n2
    rw [show p + 1 + d = p + d + 1 by omega] at this
    exact this
  · exact Or.inr (numS_at h n)
theorem namS_at {sr sr' : Nat → Int} {d p e : Nat} (h : likeAt sr sr' d p e) (n : namS sr p e) : namS sr' (p + d) (e + d) := by
  obtain ⟨n1, n2, n3, n4⟩ := n
  refine ⟨by omega, by omega, fun j a b => ?_, ?_⟩
  · have := h (j - d) (by omega) (by omega)
    rw [show j - d + d = j by omega] at this
    rw [this]
    exact n3 _ (by omega) (by omega)
  · rcases n4 with n4 | n4
    · exact Or.inl (by omega)
    · exact Or.inr (by rw [h e (by omega) (by omega)]; exact n4)
end mg_76

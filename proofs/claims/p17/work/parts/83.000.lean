/-! ===== calls that change the reference's row ===== -/
theorem keep_ev {m m' pool : Nat → Int} {B B' : Int} (h : Mid m pool B) (ht : TkM m pool 99) (hi : Inv m' pool B') (k : Ev m m') : Mid m' pool B' ∧ TkM m' pool 99 := by
  have k0 := h.1.1.2.1
  have k3 := h.1.1.2.2.2.2.1
  have es := k.es
  exact ⟨⟨hi, k.sc h.2.1 k0.2, es.2.2.2.1 h.2.2.1, es.ns h.2.2.2 k0.2⟩, ht.es es k3.2 k0.2⟩
/-- what a text call leaves: the row, the pool, and that the pool below its old end is as it was -/
def Txt (m m' pool pool' : Nat → Int) (B T : Int) : Prop := All m' pool' B T ∧ poolOk pool' ∧ (∀ q : Nat, (q : Int) < m 8 → pool' q = pool q) ∧ m 8 ≤ m' 8
theorem takeR_nm {tape : Nat → Int} {len f11 f12 : Int} (h : (wR len (takeR tape len f11 f12)).1 = true) : nameB tape len (ps0 f11 f12) ∧ ((hereF tape len (nameF tape len (ps0 f11 f12)).1 = 61 ∧ (wR len (stepsW tape len 1 false (advF (nameF tape len (ps0 f11 f12))))).1 = true) ∨ (nameF tape len (ps0 f11 f12)).1 = len) := by
  by_cases c : nameB tape len (ps0 f11 f12)
  · refine ⟨c, ?_⟩
    by_cases d : hereF tape len (nameF tape len (ps0 f11 f12)).1 = 61
    · have e : takeR tape len f11 f12 = stepsW tape len 1 false (advF (nameF tape len (ps0 f11 f12))) := by unfold takeR; rw [if_pos ⟨c, d⟩]
      rw [e] at h
      exact Or.inl ⟨d, h⟩
    · have e : takeR tape len f11 f12 = (true, nameF tape len (ps0 f11 f12)) := by unfold takeR; rw [if_neg (fun z => d z.2), decide_eq_true c]
      rw [e] at h
      have e2 : wR len (true, nameF tape len (ps0 f11 f12)) = wholeR len (nameF tape len (ps0 f11 f12)) := by unfold wR; rw [if_pos rfl]
      rw [e2] at h
      unfold wholeR at h
      split at h
      · rename_i g; exact Or.inr g.1
      · cases h
  · have e : takeR tape len f11 f12 = (false, nameF tape len (ps0 f11 f12)) := by unfold takeR; rw [if_neg (fun z => c z.1), decide_eq_false c]
    rw [e] at h
    have e2 : wR len (false, nameF tape len (ps0 f11 f12)) = (false, nameF tape len (ps0 f11 f12)) := by unfold wR; rw [if_neg (fun z => by cases z)]
    rw [e2] at h; cases h
theorem nameB_lt {tape : Nat → Int} {len f11 f12 : Int} (h : nameB tape len (ps0 f11 f12)) : namS (clip tape len) 0 (takeE tape len f11 f12) ∧ (nameF tape len (ps0 f11 f12)).2.2.2.2 = 0 := by
  have a1 : (aR tape len (ps0 f11 f12)).1 = true := decide_eq_true h
  obtain ⟨b1, b2, b3⟩ := aR_rd (Int.le_refl _) a1
  refine ⟨b1, ?_⟩
  have : (nameF tape len (ps0 f11 f12)).2 = (ps0 f11 f12).2 := b3
  rw [this]; rfl

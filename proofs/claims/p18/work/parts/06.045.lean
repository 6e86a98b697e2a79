section mg_25
theorem fail_up {p : Int} {q : PS} : q.1 ≤ (failF p q).1 := Int.le_refl _
theorem adv_up {q : PS} : q.1 ≤ (advF q).1 := by show q.1 ≤ q.1 + 1; omega
theorem gR_up {sr : Nat → Int} {len c : Int} {q : PS} : q.1 ≤ (gR sr len c q).2.1 := by
  show q.1 ≤ (signF sr len c q).1
  unfold signF
  split
  · exact adv_up
  · exact fail_up
theorem numL_up {sr : Nat → Int} {len : Int} : ∀ (n : Nat) (q : PS), q.1 ≤ (numL sr len n q).1
  | 0, q => Int.le_refl _
  | n + 1, q => by
    unfold numL
    split
    · have := numL_up (sr := sr) (len := len) n (q.1 + 1, q.2.1, 10 * q.2.2.1 + hereF sr len q.1 - 48, q.2.2.2)
      dsimp only at this
      omega
    · exact Int.le_refl _
theorem nR_up {sr : Nat → Int} {len : Int} {n : Nat} {l m : Int} {q : PS} : q.1 ≤ (nR sr len n l m q).2.1 := by
  show q.1 ≤ (numberF sr len n l m q).1
  unfold numberF
  split
  · have := numL_up (sr := sr) (len := len) n (q.1, q.2.1, 0, q.2.2.2)
    dsimp only at this
    unfold finF
    split
    · exact this
    · exact this
  · exact fail_up
theorem vR_up {sr : Nat → Int} {len : Int} {q : PS} : q.1 ≤ (vR sr len q).2.1 := by
  have h := nR_up (sr := sr) (len := len) (n := 5) (l := 0) (m := 99999) (q := minusF sr len q)
  have h2 : q.1 ≤ (minusF sr len q).1 := by
    show q.1 ≤ q.1 + b01 _
    by_cases g : hereF sr len q.1 = 45
    · rw [b01_t g]; omega
    · rw [b01_f g]; omega
  exact Int.le_trans h2 h
theorem nameL_up {sr : Nat → Int} {len : Int} : ∀ (n : Nat) (q : PS), q.1 ≤ (nameL sr len n q).1
  | 0, q => Int.le_refl _
  | n + 1, q => by
    unfold nameL
    split
    · exact Int.le_trans adv_up (nameL_up n _)
    · exact Int.le_refl _
theorem aR_up {sr : Nat → Int} {len : Int} {q : PS} : q.1 ≤ (aR sr len q).2.1 := by
  show q.1 ≤ (nameF sr len q).1
  unfold nameF
  split
  · exact nameL_up 7 _
  · exact fail_up
/-- goes on, and stays well -/
def psUp (len : Int) (f : PS → Bool × PS) : Prop := ∀ q, psOk len q → psOk len (f q).2 ∧ q.1 ≤ (f q).2.1
theorem andR_upp {len : Int} {f g : PS → Bool × PS} (hf : psUp len f) (hg : psUp len g) : psUp len (fun q => andR (f q) g) := by
  intro q hq
  obtain ⟨a, b⟩ := hf q hq
  unfold andR
  dsimp only
  split
  · obtain ⟨c, d⟩ := hg _ a
    exact ⟨c, Int.le_trans b d⟩
  · exact ⟨a, b⟩
theorem gR_p {sr : Nat → Int} {len c : Int} (hc : c ≠ -1) : psUp len (gR sr len c) := fun q hq => ⟨gR_ok hc hq, gR_up⟩
theorem nR_p {sr : Nat → Int} {len : Int} {n : Nat} {l m : Int} (hn : n ≤ 5) : psUp len (nR sr len n l m) := fun q hq => ⟨nR_ok hn hq, nR_up⟩
theorem vR_p {sr : Nat → Int} {len : Int} : psUp len (vR sr len) := fun q hq => ⟨vR_ok hq, vR_up⟩
theorem aR_p {sr : Nat → Int} {len : Int} : psUp len (aR sr len) := fun q hq => ⟨aR_ok hq, aR_up⟩
theorem takeG_p {sr : Nat → Int} {len : Int} {steps : PS → Bool × PS} {w : Int} (hs : psUp len steps) : psUp len (takeG sr len steps w) := by
  refine andR_upp aR_p (fun q hq => ?_)
  try dsimp only
  split
  · rename_i h
    have hl := here_lt (sr := sr) (len := len) (a := q.1) (by omega)
    split
    · exact ⟨fail_ok hq hq.1 hq.2.1, fail_up⟩
    · obtain ⟨a, b⟩ := andR_upp hs (gR_p (sr := sr) (len := len) (c := 125) (by decide)) _ (adv_ok hq hl)
      exact ⟨a, Int.le_trans adv_up b⟩
  · exact ⟨hq, Int.le_refl _⟩
theorem open_p {len c : Int} {q : PS} (hq : psOk len q) (h1 : c = 41 → 0 < q.2.2.2.2) (h2 : q.2.2.2.2 ≤ q.1 + 89) : psOk len (openF c q) ∧ q.1 ≤ (openF c q).1 := by
  obtain ⟨a, b, cc, d, e, f, g, i⟩ := hq
  refine ⟨⟨a, b, cc, d, e, f, ?_, ?_⟩, Int.le_refl _⟩
  · unfold openF
    dsimp only
    split
    · omega
    · split
      · have := h1 (by assumption); omega
      · omega
  · unfold openF
    dsimp only
    split
    · omega
    · split <;> omega
end mg_25

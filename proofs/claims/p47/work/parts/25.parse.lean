/-! ===== contracts of the reference: steps ===== -/
theorem J_wr (a : Int) : J (J a).toInt = J a := (J_of (J a)).symm
def andR (r : Bool × PS) (f : PS → Bool × PS) : Bool × PS := if r.1 = true then f r.2 else r
def nR (sr : Nat → Int) (len : Int) (n : Nat) (l m : Int) (q : PS) : Bool × PS := (decide (numberB sr len n l m q), numberF sr len n l m q)
def gR (sr : Nat → Int) (len : Int) (c : Int) (q : PS) : Bool × PS := (decide (hereF sr len q.1 = c), signF sr len c q)
def vR (sr : Nat → Int) (len : Int) (q : PS) : Bool × PS := (decide (signedB sr len q), signedF sr len q)
def aR (sr : Nat → Int) (len : Int) (q : PS) : Bool × PS := (decide (nameB sr len q), nameF sr len q)
def takeG (sr : Nat → Int) (len : Int) (steps : PS → Bool × PS) (w : Int) (q : PS) : Bool × PS :=
  andR (aR sr len q) (fun q1 => if hereF sr len q1.1 = 123 then (if 2 < w then (false, failF q1.1 q1) else andR (steps (advF q1)) (gR sr len 125)) else (true, q1))
abbrev stepOk (c : Int) (it bh : Bool) (q : PS) : Prop := c = 43 ∨ c = 33 ∨ c = 97 ∨ c = 120 ∨ c = 109 ∨ c = 107 ∨ c = 46 ∨ (c = 63 ∧ bh = false) ∨ ((c = 40 ∨ (c = 41 ∧ 0 < q.2.2.2.2)) ∧ it = true)
def openF (c : Int) (q : PS) : PS := (q.1, q.2.1, q.2.2.1, q.2.2.2.1, q.2.2.2.2 + (if c = 40 then 1 else if c = 41 then -1 else 0))
def stepG (sr : Nat → Int) (len : Int) (take inner : PS → Bool × PS) (c : Int) (q : PS) : Bool × PS :=
  if c = 43 then andR (andR (nR sr len 1 0 7 q) (gR sr len 61)) (vR sr len)
  else if c = 33 then nR sr len 2 1 99 q
  else if c = 97 then take q
  else if c = 120 then aR sr len q
  else if c = 109 then andR (andR (aR sr len q) (gR sr len 62)) (nR sr len 2 0 99)
  else if c = 107 then nR sr len 1 0 9 q
  else if c = 63 then andR (andR (andR (andR (nR sr len 1 0 7 q) (gR sr len 60)) (vR sr len)) (gR sr len 58)) inner
  else (true, openF c q)
theorem andR_t {r : Bool × PS} {f : PS → Bool × PS} (h : r.1 = true) : andR r f = f r.2 := by simp [andR, h]
theorem andR_f {r : Bool × PS} {f : PS → Bool × PS} (h : ¬ r.1 = true) : andR r f = r := by simp [andR, h]
theorem andR_ok {len : Int} {r : Bool × PS} {f : PS → Bool × PS} (h : psOk len r.2) (hf : ∀ q, psOk len q → psOk len (f q).2) : psOk len (andR r f).2 := by
  unfold andR
  split
  · exact hf _ h
  · exact h
theorem nR_ok {sr : Nat → Int} {len : Int} {n : Nat} {l m : Int} {q : PS} (hn : n ≤ 5) (hq : psOk len q) : psOk len (nR sr len n l m q).2 := number_ok hn hq
theorem gR_ok {sr : Nat → Int} {len c : Int} {q : PS} (hc : c ≠ -1) (hq : psOk len q) : psOk len (gR sr len c q).2 := sign_ok hq hc
theorem vR_ok {sr : Nat → Int} {len : Int} {q : PS} (hq : psOk len q) : psOk len (vR sr len q).2 := signed_ok hq
theorem aR_ok {sr : Nat → Int} {len : Int} {q : PS} (hq : psOk len q) : psOk len (aR sr len q).2 := name_ok hq
def stepR (sr : Nat → Int) (len : Int) (take inner : PS → Bool × PS) (it bh : Bool) (q : PS) : Bool × PS :=
  if stepOk (hereF sr len q.1) it bh q then stepG sr len take inner (hereF sr len q.1) (advF q) else (false, failF q.1 q)
theorem bzF : some (Value.int (J 0)) = some (Value.int (J (bz false))) := by rw [bz_f (by decide)]
theorem bzT : some (Value.int (J 1)) = some (Value.int (J (bz true))) := by rw [bz_t rfl]
theorem bzf {b : Bool} (h : ¬ b = true) : some (Value.int (J 0)) = some (Value.int (J (bz b))) := by rw [bz_f h]
theorem bzt {b : Bool} (h : b = true) : some (Value.int (J 1)) = some (Value.int (J (bz b))) := by rw [bz_t h]
theorem fail_up {p : Int} {q : PS} : q.1 ≤ (failF p q).1 := Int.le_refl _
theorem adv_up {q : PS} : q.1 ≤ (advF q).1 := by show q.1 ≤ q.1 + 1; omega
theorem gR_up {sr : Nat → Int} {len c : Int} {q : PS} : q.1 ≤ (gR sr len c q).2.1 := by
  show q.1 ≤ (signF sr len c q).1
  unfold signF
  split
  · exact adv_up
  · exact fail_up
theorem numL_up {sr : Nat → Int} {len : Int} : ∀ (n : Nat) (q : PS), q.1 ≤ (numL sr len n q).1
  | 0, q => Int.le_refl _
  | n + 1, q => by
    unfold numL
    split
    · have := numL_up (sr := sr) (len := len) n (q.1 + 1, q.2.1, 10 * q.2.2.1 + hereF sr len q.1 - 48, q.2.2.2)
      dsimp only at this
      omega
    · exact Int.le_refl _
theorem nR_up {sr : Nat → Int} {len : Int} {n : Nat} {l m : Int} {q : PS} : q.1 ≤ (nR sr len n l m q).2.1 := by
  show q.1 ≤ (numberF sr len n l m q).1
  unfold numberF
  split
  · have := numL_up (sr := sr) (len := len) n (q.1, q.2.1, 0, q.2.2.2)
    dsimp only at this
    unfold finF
    split
    · exact this
    · exact this
  · exact fail_up
theorem vR_up {sr : Nat → Int} {len : Int} {q : PS} : q.1 ≤ (vR sr len q).2.1 := by
  have h := nR_up (sr := sr) (len := len) (n := 5) (l := 0) (m := 99999) (q := minusF sr len q)
  have h2 : q.1 ≤ (minusF sr len q).1 := by
    show q.1 ≤ q.1 + b01 _
    by_cases g : hereF sr len q.1 = 45
    · rw [b01_t g]; omega
    · rw [b01_f g]; omega
  exact Int.le_trans h2 h
theorem nameL_up {sr : Nat → Int} {len : Int} : ∀ (n : Nat) (q : PS), q.1 ≤ (nameL sr len n q).1
  | 0, q => Int.le_refl _
  | n + 1, q => by
    unfold nameL
    split
    · exact Int.le_trans adv_up (nameL_up n _)
    · exact Int.le_refl _
theorem aR_up {sr : Nat → Int} {len : Int} {q : PS} : q.1 ≤ (aR sr len q).2.1 := by
  show q.1 ≤ (nameF sr len q).1
  unfold nameF
  split
  · exact nameL_up 7 _
  · exact fail_up
/-- goes on, and stays well -/
def psUp (len : Int) (f : PS → Bool × PS) : Prop := ∀ q, psOk len q → psOk len (f q).2 ∧ q.1 ≤ (f q).2.1
theorem andR_upp {len : Int} {f g : PS → Bool × PS} (hf : psUp len f) (hg : psUp len g) : psUp len (fun q => andR (f q) g) := by
  intro q hq
  obtain ⟨a, b⟩ := hf q hq
  unfold andR
  dsimp only
  split
  · obtain ⟨c, d⟩ := hg _ a
    exact ⟨c, Int.le_trans b d⟩
  · exact ⟨a, b⟩
theorem gR_p {sr : Nat → Int} {len c : Int} (hc : c ≠ -1) : psUp len (gR sr len c) := fun q hq => ⟨gR_ok hc hq, gR_up⟩
theorem nR_p {sr : Nat → Int} {len : Int} {n : Nat} {l m : Int} (hn : n ≤ 5) : psUp len (nR sr len n l m) := fun q hq => ⟨nR_ok hn hq, nR_up⟩
theorem vR_p {sr : Nat → Int} {len : Int} : psUp len (vR sr len) := fun q hq => ⟨vR_ok hq, vR_up⟩
theorem aR_p {sr : Nat → Int} {len : Int} : psUp len (aR sr len) := fun q hq => ⟨aR_ok hq, aR_up⟩
theorem takeG_p {sr : Nat → Int} {len : Int} {steps : PS → Bool × PS} {w : Int} (hs : psUp len steps) : psUp len (takeG sr len steps w) := by
  refine andR_upp aR_p (fun q hq => ?_)
  try dsimp only
  split
  · rename_i h
    have hl := here_lt (sr := sr) (len := len) (a := q.1) (by omega)
    split
    · exact ⟨fail_ok hq hq.1 hq.2.1, fail_up⟩
    · obtain ⟨a, b⟩ := andR_upp hs (gR_p (sr := sr) (len := len) (c := 125) (by decide)) _ (adv_ok hq hl)
      exact ⟨a, Int.le_trans adv_up b⟩
  · exact ⟨hq, Int.le_refl _⟩
theorem open_p {len c : Int} {q : PS} (hq : psOk len q) (h1 : c = 41 → 0 < q.2.2.2.2) (h2 : q.2.2.2.2 ≤ q.1 + 89) : psOk len (openF c q) ∧ q.1 ≤ (openF c q).1 := by
  obtain ⟨a, b, cc, d, e, f, g, i⟩ := hq
  refine ⟨⟨a, b, cc, d, e, f, ?_, ?_⟩, Int.le_refl _⟩
  · unfold openF
    dsimp only
    split
    · omega
    · split
      · have := h1 (by assumption); omega
      · omega
  · unfold openF
    dsimp only
    split
    · omega
    · split <;> omega
theorem stepR_p {sr : Nat → Int} {len : Int} {take inner : PS → Bool × PS} {it bh : Bool} (ht : psUp len take) (hi : psUp len inner) : psUp len (stepR sr len take inner it bh) := by
  intro q hq
  unfold stepR
  split
  · rename_i ok
    have hl := here_lt (sr := sr) (len := len) (a := q.1) (by rcases ok with g | g | g | g | g | g | g | ⟨g, -⟩ | ⟨g | ⟨g, -⟩, -⟩ <;> omega)
    have hq1 := adv_ok hq hl
    have K : ∀ f : PS → Bool × PS, psUp len f → psOk len (f (advF q)).2 ∧ q.1 ≤ (f (advF q)).2.1 := fun f hf => ⟨(hf _ hq1).1, Int.le_trans adv_up (hf _ hq1).2⟩
    unfold stepG
    split
    · exact K (fun q => andR (andR (nR sr len 1 0 7 q) (gR sr len 61)) (vR sr len)) (andR_upp (andR_upp (nR_p (by decide)) (gR_p (by decide))) vR_p)
    · split
      · exact K _ (nR_p (by decide))
      · split
        · exact K _ ht
        · split
          · exact K _ aR_p
          · split
            · exact K (fun q => andR (andR (aR sr len q) (gR sr len 62)) (nR sr len 2 0 99)) (andR_upp (andR_upp aR_p (gR_p (by decide))) (nR_p (by decide)))
            · split
              · exact K _ (nR_p (by decide))
              · split
                · exact K (fun q => andR (andR (andR (andR (nR sr len 1 0 7 q) (gR sr len 60)) (vR sr len)) (gR sr len 58)) inner) (andR_upp (andR_upp (andR_upp (andR_upp (nR_p (by decide)) (gR_p (by decide))) vR_p) (gR_p (by decide))) hi)
                · obtain ⟨a, b⟩ := open_p (c := hereF sr len q.1) hq1 (fun g => by
                    show 0 < q.2.2.2.2
                    rcases ok with z | z | z | z | z | z | z | ⟨z, -⟩ | ⟨z | ⟨z, z2⟩, -⟩ <;> omega) (by
                    have := hq.2.2.2.2.2.2.2
                    show q.2.2.2.2 ≤ q.1 + 1 + 89
                    omega)
                  exact ⟨a, Int.le_trans adv_up b⟩
  · exact ⟨fail_ok hq hq.1 hq.2.1, fail_up⟩

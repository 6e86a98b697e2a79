/-! ===== take and task read what the law types ===== -/
section N7
variable {ft : Nat → Int} {u : List Int}
theorem ATX.of (h : ∀ j, j < u.length → ft j = u.getD j 0) : ATX ft (u.length : Int) 0 u := fun j hj => by
  unfold hereF
  rw [if_pos (by omega), show (((0 + j : Nat) : Int)).toNat = j by omega]
  exact h j hj
theorem here_end {p : Nat} (hp : p = u.length) : hereF ft (u.length : Int) (p : Int) = -1 := by
  unfold hereF
  rw [if_neg (by omega)]
theorem wR_ok {len : Int} {r : Bool × PS} {p : Nat} (h : OKR r p 0) (hp : (p : Int) = len) : (wR len r).1 = true := by
  unfold wR wholeR
  rw [if_pos h.1, if_pos ⟨h.2.1.trans hp, h.2.2⟩]
theorem ps0_q : (ps0 0 0).1 = ((0 : Nat) : Int) ∧ (ps0 0 0).2.2.2.2 = 0 := ⟨rfl, rfl⟩
theorem nm_at {sr : Nat → Int} {len : Int} {p : Nat} {k : Int} (hk : 0 ≤ k ∧ k ≤ 15) (h : ATX sr len p (nm k)) : (97 ≤ hereF sr len (p : Int) ∧ hereF sr len (p : Int) ≤ 122) ∧ (97 ≤ hereF sr len ((p + 1 : Nat) : Int) ∧ hereF sr len ((p + 1 : Nat) : Int) ≤ 122) := by
  have e1 : hereF sr len (p : Int) = 97 + k / 7 := h 0 (Nat.le_of_ble_eq_true rfl)
  have e2 : hereF sr len ((p + 1 : Nat) : Int) = 107 + k % 7 := h 1 (Nat.le_of_ble_eq_true rfl)
  exact ⟨by omega, by omega⟩
/-- a name alone -/
theorem take_n {k : Int} (hk : 0 ≤ k ∧ k ≤ 15) (hu : u = nm k) (h : ∀ j, j < u.length → ft j = u.getD j 0) : (wR (u.length : Int) (takeR ft (u.length : Int) 0 0)).1 = true := by
  have ha := ATX.of h
  have hl : u.length = 2 := by rw [hu]; rfl
  have hz : hereF ft (u.length : Int) ((0 + 2 : Nat) : Int) = -1 := here_end (by omega)
  obtain ⟨a1, a2⟩ := nm_at hk (by rw [← hu]; exact ha)
  obtain ⟨b1, b2, b3⟩ := name2 (sr := ft) (len := (u.length : Int)) ps0_q.1 ps0_q.2 a1 a2 (by rw [hz]; omega)
  unfold takeR
  rw [if_neg (fun z => by rw [b2, hz] at z; exact absurd z.2 (by decide)), decide_eq_true b1]
  exact wR_ok (p := 0 + 2) ⟨rfl, b2, b3⟩ (by omega)
/-- a name and two closers -/
theorem take_c {k : Int} (hk : 0 ≤ k ∧ k ≤ 15) {t1 t2 : List Int} (h1 : TX t1) (h2 : TX t2) (hu : u = nm k ++ ([61] ++ t1 ++ [59] ++ t2)) (h : ∀ j, j < u.length → ft j = u.getD j 0) : (wR (u.length : Int) (takeR ft (u.length : Int) 0 0)).1 = true := by
  have ha := ATX.of h
  have hl : u.length = 2 + (1 + t1.length + 1 + t2.length) := by rw [hu]; simp only [List.length_append, List.length_cons, List.length_nil, nm]
  have hz : hereF ft (u.length : Int) (u.length : Int) = -1 := here_end rfl
  have ha' : ATX ft (u.length : Int) 0 (nm k ++ ([61] ++ t1 ++ [59] ++ t2)) := by rw [← hu]; exact ha
  obtain ⟨a1, a2⟩ := nm_at hk ha'.l
  have c2 := ha'.r
  have e2 : hereF ft (u.length : Int) ((2 : Nat) : Int) = 61 := c2.l.l.l 0 (Nat.le_of_ble_eq_true rfl)
  have c3 := c2.l.l.r
  have e4 := c2.l.r 0 (Nat.le_of_ble_eq_true rfl)
  have c5 := c2.r
  have n2 : 0 + (nm k).length = 2 := rfl
  rw [n2] at c3 e4 c5
  rw [show (2 + ([61] : List Int).length) = 3 from rfl] at c3
  rw [show (2 + ([61] ++ t1 : List Int).length + 0) = 3 + t1.length by simp only [List.length_append, List.length_cons, List.length_nil]; omega] at e4
  rw [show (2 + ([61] ++ t1 ++ [59] : List Int).length) = 3 + t1.length + 1 by simp only [List.length_append, List.length_cons, List.length_nil]; omega] at c5
  have e4' : hereF ft (u.length : Int) ((3 + t1.length : Nat) : Int) = 59 := e4
  have e6 : hereF ft (u.length : Int) ((3 + t1.length + 1 + t2.length : Nat) : Int) = -1 := here_end (by omega)
  obtain ⟨b1, b2, b3⟩ := name2 (sr := ft) (len := (u.length : Int)) ps0_q.1 ps0_q.2 a1 a2 (by rw [show (0 + 2) = 2 from rfl, e2]; omega)
  rw [show (0 + 2) = 2 from rfl] at b2
  unfold takeR
  rw [if_pos ⟨b1, by rw [b2]; exact e2⟩]
  refine wR_ok (p := 3 + t1.length + 1 + t2.length) ?_ (by omega)
  unfold stepsW stepsR
  refine setN_k (stepsL_on (p := 3 + t1.length) (o := 0) ?_ e4' (fun q q1 q2 => stepsL_end ?_ (by rw [e6]; decide)))
  · exact tx_k (n := 5) (by decide) h1 (by show (nameF ft (u.length : Int) (ps0 0 0)).1 + 1 = _; rw [b2]; rfl) b3 c3 (Or.inl e4')
  · exact tx_k (n := 5) (by decide) h2 q1 q2 c5 (Or.inr (Or.inl e6))
theorem open_k {sr : Nat → Int} {len : Int} {take inner : PS → Bool × PS} {bh : Bool} {q : PS} {p : Nat} {o : Int} (hq : q.1 = p) (ho : q.2.2.2.2 = o) (h : hereF sr len (p : Int) = 40) : OKR (stepR sr len take inner true bh q) (p + 1) (o + 1) := by
  refine st_open hq ho h (Or.inr (Or.inr (Or.inr (Or.inr (Or.inr (Or.inr (Or.inr (Or.inr ⟨Or.inl rfl, rfl⟩)))))))) (fun q1 k1 k2 => ?_)
  unfold stepG
  rw [if_neg (by decide), if_neg (by decide), if_neg (by decide), if_neg (by decide), if_neg (by decide), if_neg (by decide), if_neg (by decide)]
  exact ⟨rfl, k1, by show q1.2.2.2.2 + _ = _; rw [if_pos rfl, k2]⟩
theorem shut_k {sr : Nat → Int} {len : Int} {take inner : PS → Bool × PS} {bh : Bool} {q : PS} {p : Nat} {o : Int} (hq : q.1 = p) (ho : q.2.2.2.2 = o) (h0 : 0 < o) (h : hereF sr len (p : Int) = 41) : OKR (stepR sr len take inner true bh q) (p + 1) (o - 1) := by
  refine st_open hq ho h (Or.inr (Or.inr (Or.inr (Or.inr (Or.inr (Or.inr (Or.inr (Or.inr ⟨Or.inr ⟨rfl, by rw [ho]; exact h0⟩, rfl⟩)))))))) (fun q1 k1 k2 => ?_)
  unfold stepG
  rw [if_neg (by decide), if_neg (by decide), if_neg (by decide), if_neg (by decide), if_neg (by decide), if_neg (by decide), if_neg (by decide)]
  exact ⟨rfl, k1, by show q1.2.2.2.2 + _ = _; rw [if_neg (by decide), if_pos rfl, k2]; omega⟩
/-- the text of a task -/
theorem task_c {t1 t2 t3 : List Int} (h1 : TX t1) (h2 : TX t2) (h3 : TX t3) (hu : u = t1 ++ [59, 40, 59] ++ t2 ++ [59, 46, 59] ++ t3 ++ [59, 41]) (h : ∀ j, j < u.length → ft j = u.getD j 0) : (taskR ft (u.length : Int) 0 0).1 = true := by
  have ha := ATX.of h
  have hl : u.length = t1.length + 3 + t2.length + 3 + t3.length + 2 := by rw [hu]; simp only [List.length_append, List.length_cons, List.length_nil]
  have ha' : ATX ft (u.length : Int) 0 (t1 ++ [59, 40, 59] ++ t2 ++ [59, 46, 59] ++ t3 ++ [59, 41]) := by rw [← hu]; exact ha
  have c1 := ha'.l.l.l.l.l
  have c2 := ha'.l.l.l.l.r
  have c3 := ha'.l.l.l.r
  have c4 := ha'.l.l.r
  have c5 := ha'.l.r
  have c6 := ha'.r
  rw [Nat.zero_add] at c2 c3 c4 c5 c6
  rw [show (t1 ++ [59, 40, 59] : List Int).length = t1.length + 3 by simp only [List.length_append, List.length_cons, List.length_nil]] at c3
  rw [show (t1 ++ [59, 40, 59] ++ t2 : List Int).length = t1.length + 3 + t2.length by simp only [List.length_append, List.length_cons, List.length_nil]] at c4
  rw [show (t1 ++ [59, 40, 59] ++ t2 ++ [59, 46, 59] : List Int).length = t1.length + 3 + t2.length + 3 by simp only [List.length_append, List.length_cons, List.length_nil]] at c5
  rw [show (t1 ++ [59, 40, 59] ++ t2 ++ [59, 46, 59] ++ t3 : List Int).length = t1.length + 3 + t2.length + 3 + t3.length by simp only [List.length_append, List.length_cons, List.length_nil]] at c6
  generalize hn1 : t1.length = n1 at *
  generalize hn2 : t2.length = n2 at *
  generalize hn3 : t3.length = n3 at *
  have a0 : hereF ft (u.length : Int) ((n1 : Nat) : Int) = 59 := c2 0 (Nat.le_of_ble_eq_true rfl)
  have a1 : hereF ft (u.length : Int) ((n1 + 1 : Nat) : Int) = 40 := c2 1 (Nat.le_of_ble_eq_true rfl)
  have a2 : hereF ft (u.length : Int) ((n1 + 1 + 1 : Nat) : Int) = 59 := c2 2 (Nat.le_of_ble_eq_true rfl)
  have d0 : hereF ft (u.length : Int) ((n1 + 3 + n2 : Nat) : Int) = 59 := c4 0 (Nat.le_of_ble_eq_true rfl)
  have d1 := c4 1 (Nat.le_of_ble_eq_true rfl)
  have d1' : hereF ft (u.length : Int) ((n1 + 3 + n2 + 1 : Nat) : Int) = 46 := d1
  have d2 : hereF ft (u.length : Int) ((n1 + 3 + n2 + 1 + 1 : Nat) : Int) = 59 := c4 2 (Nat.le_of_ble_eq_true rfl)
  have f0 : hereF ft (u.length : Int) ((n1 + 3 + n2 + 3 + n3 : Nat) : Int) = 59 := c6 0 (Nat.le_of_ble_eq_true rfl)
  have f1 : hereF ft (u.length : Int) ((n1 + 3 + n2 + 3 + n3 + 1 : Nat) : Int) = 41 := c6 1 (Nat.le_of_ble_eq_true rfl)
  have fz : hereF ft (u.length : Int) ((n1 + 3 + n2 + 3 + n3 + 1 + 1 : Nat) : Int) = -1 := here_end (by omega)
  have cd : ATX ft (u.length : Int) (n1 + 3 + n2 + 1) [46] := fun j hj => by
    obtain rfl : j = 0 := by have : j < 1 := hj; omega
    exact d1'
  obtain ⟨j, hj⟩ : ∃ j, ((u.length : Int)).toNat + 1 = j + 5 := ⟨((u.length : Int)).toNat - 4, by omega⟩
  unfold taskR
  refine wR_ok (p := n1 + 3 + n2 + 3 + n3 + 1 + 1) ?_ (by omega)
  unfold stepsW stepsR
  rw [hj]
  refine setN_k (stepsL_on (p := n1) (o := 0) ?_ a0 (fun q q1 q2 => stepsL_on (p := n1 + 1 + 1) (o := 1) ?_ a2 (fun q' r1 r2 => stepsL_on (p := n1 + 3 + n2) (o := 1) ?_ d0 (fun q3 s1 s2 => stepsL_on (p := n1 + 3 + n2 + 1 + 1) (o := 1) ?_ d2 (fun q4 v1 v2 => stepsL_on (p := n1 + 3 + n2 + 3 + n3) (o := 1) ?_ f0 (fun q5 w1 w2 => stepsL_end ?_ (by rw [fz]; decide)))))))
  · have z := tx_k (sr := ft) (len := (u.length : Int)) (n := 5) (w := 0) (it := true) (by decide) h1 ps0_q.1 ps0_q.2 c1 (by rw [hn1, Nat.zero_add]; exact Or.inl a0)
    rw [hn1, Nat.zero_add] at z
    exact z
  · rw [show (8 : Nat) = 7 + 1 from rfl, stepN_S]
    exact open_k q1 q2 a1
  · have z := tx_k (sr := ft) (len := (u.length : Int)) (n := 5) (w := 0) (it := true) (p := n1 + 3) (by decide) h2 r1 r2 c3 (by rw [hn2]; exact Or.inl d0)
    rw [hn2] at z
    exact z
  · exact tx_k (sr := ft) (len := (u.length : Int)) (n := 5) (w := 0) (it := true) (p := n1 + 3 + n2 + 1) (by decide) (Or.inr (Or.inr (Or.inr (Or.inr (Or.inr (Or.inr (Or.inr rfl))))))) s1 s2 cd (Or.inl d2)
  · have z := tx_k (sr := ft) (len := (u.length : Int)) (n := 5) (w := 0) (it := true) (p := n1 + 3 + n2 + 3) (by decide) h3 v1 v2 c5 (by rw [hn3]; exact Or.inl f0)
    rw [hn3] at z
    exact z
  · rw [show (8 : Nat) = 7 + 1 from rfl, stepN_S]
    exact shut_k w1 w2 (by decide) f1
end N7

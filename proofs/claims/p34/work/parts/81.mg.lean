section mg_81
/-! ===== what was read is a text of steps ===== -/
def clip (sr : Nat → Int) (len : Int) : Nat → Int := fun j => if (j : Int) < len then sr j else 0
section RD
variable {sr : Nat → Int} {len : Int}
theorem here_c {a c : Int} (h0 : 0 ≤ a) (h : hereF sr len a = c) (hc : ¬ c = -1) : clip sr len a.toNat = c := by
  unfold hereF at h; unfold clip
  split at h
  · rw [if_pos (by omega)]; exact h
  · exact absurd h.symm hc
theorem here_n {a c : Int} (h0 : 0 ≤ a) (h : ¬ hereF sr len a = c) (hc : ¬ c = 0) : ¬ clip sr len a.toNat = c := by
  unfold hereF at h; unfold clip
  split at h
  · rw [if_pos (by omega)]; exact h
  · rw [if_neg (by omega)]; omega
theorem here_d {a : Int} (h0 : 0 ≤ a) : (48 ≤ hereF sr len a ∧ hereF sr len a ≤ 57) ↔ dgP (clip sr len a.toNat) := by
  unfold hereF clip dgP
  by_cases c : a < len
  · rw [if_pos c, if_pos (by omega)]
  · rw [if_neg c, if_neg (by omega)]; omega
theorem here_l {a : Int} (h0 : 0 ≤ a) : (97 ≤ hereF sr len a ∧ hereF sr len a ≤ 122) ↔ isLt (clip sr len a.toNat) := by
  unfold hereF clip isLt
  by_cases c : a < len
  · rw [if_pos c, if_pos (by omega)]
  · rw [if_neg c, if_neg (by omega)]; omega
theorem andR_s {r : Bool × PS} {f : PS → Bool × PS} (h : (andR r f).1 = true) : r.1 = true ∧ (f r.2).1 = true ∧ andR r f = f r.2 := by
  by_cases c : r.1 = true
  · rw [andR_t c] at h ⊢; exact ⟨c, h, rfl⟩
  · rw [andR_f c] at h; exact absurd h c
theorem numL_rd : ∀ (n : Nat) (q : PS), 0 ≤ q.1 → q.1 ≤ (numL sr len n q).1 ∧ (numL sr len n q).1 ≤ q.1 + n ∧ (∀ j : Nat, q.1 ≤ j → (j : Int) < (numL sr len n q).1 → dgP (clip sr len j)) ∧ (numL sr len n q).2.2.2.2 = q.2.2.2.2
  | 0, q, h => by unfold numL; exact ⟨Int.le_refl _, by omega, fun j a b => by omega, rfl⟩
  | n + 1, q, h => by
    unfold numL
    split
    · rename_i c
      obtain ⟨a, b, d, e⟩ := numL_rd n (q.1 + 1, q.2.1, 10 * q.2.2.1 + hereF sr len q.1 - 48, q.2.2.2) (by show (0 : Int) ≤ q.1 + 1; omega)
      dsimp only at a b d e
      refine ⟨by omega, by omega, fun j x y => ?_, e⟩
      by_cases z : (j : Int) = q.1
      · have := (here_d h).mp c
        rw [show q.1.toNat = j by omega] at this
        exact this
      · exact d j (by omega) y
    · exact ⟨Int.le_refl _, by omega, fun j a b => by omega, rfl⟩
theorem nR_rd {n : Nat} {l m : Int} {q : PS} (h0 : 0 ≤ q.1) (hn : 1 ≤ n) (h : (nR sr len n l m q).1 = true) : numS (clip sr len) q.1.toNat (nR sr len n l m q).2.1.toNat n ∧ q.1 < (nR sr len n l m q).2.1 ∧ (nR sr len n l m q).2.2.2.2.2 = q.2.2.2.2 := by
  have hb : numberB sr len n l m q := by simpa [nR] using h
  obtain ⟨h1, h2⟩ := hb
  have e : (nR sr len n l m q).2 = numL sr len n (q.1, q.2.1, 0, q.2.2.2) := by
    show numberF sr len n l m q = _
    unfold numberF
    rw [if_pos h1]
    unfold finF
    rw [if_pos h2]
  rw [e]
  obtain ⟨a, b, d, f⟩ := numL_rd (sr := sr) (len := len) n (q.1, q.2.1, 0, q.2.2.2) h0
  dsimp only at a b d f
  have hlt : q.1 < (numL sr len n (q.1, q.2.1, 0, q.2.2.2)).1 := by
    cases n with
    | zero => omega
    | succ n =>
      unfold numL
      rw [if_pos h1]
      obtain ⟨a', -, -, -⟩ := numL_rd (sr := sr) (len := len) n (q.1 + 1, q.2.1, 10 * 0 + hereF sr len q.1 - 48, q.2.2.2) (by show (0 : Int) ≤ q.1 + 1; omega)
      dsimp only at a' ⊢
      omega
  exact ⟨⟨by omega, by omega, fun j x y => d j (by omega) (by omega)⟩, hlt, f⟩
theorem vR_rd {q : PS} (h0 : 0 ≤ q.1) (h : (vR sr len q).1 = true) : sgnS (clip sr len) q.1.toNat (vR sr len q).2.1.toNat ∧ q.1 < (vR sr len q).2.1 ∧ (vR sr len q).2.2.2.2.2 = q.2.2.2.2 := by
  have e : vR sr len q = nR sr len 5 0 99999 (minusF sr len q) := rfl
  rw [e] at h ⊢
  by_cases c : hereF sr len q.1 = 45
  · have em : (minusF sr len q).1 = q.1 + 1 := by unfold minusF; rw [b01_t c]
    have eo : (minusF sr len q).2 = q.2 := rfl
    obtain ⟨a, b, d⟩ := nR_rd (by omega) (by decide) h
    rw [em] at a b
    rw [eo] at d
    refine ⟨Or.inl ⟨here_c h0 c (by decide), ?_⟩, by omega, d⟩
    rw [show q.1.toNat + 1 = (q.1 + 1).toNat by omega]; exact a
  · have em : (minusF sr len q).1 = q.1 := by unfold minusF; rw [b01_f c]; exact Int.add_zero _
    have eo : (minusF sr len q).2 = q.2 := rfl
    obtain ⟨a, b, d⟩ := nR_rd (by omega) (by decide) h
    rw [em] at a b
    rw [eo] at d
    exact ⟨Or.inr a, b, d⟩
theorem nameL_rd : ∀ (n : Nat) (q : PS), 0 ≤ q.1 → q.1 ≤ (nameL sr len n q).1 ∧ (nameL sr len n q).1 ≤ q.1 + n ∧ (∀ j : Nat, q.1 ≤ j → (j : Int) < (nameL sr len n q).1 → isLt (clip sr len j)) ∧ (nameL sr len n q).2 = q.2 ∧ ((nameL sr len n q).1 = q.1 + n ∨ ¬ isLt (clip sr len (nameL sr len n q).1.toNat))
  | 0, q, h => by unfold nameL; exact ⟨Int.le_refl _, by omega, fun j a b => by omega, rfl, Or.inl (by omega)⟩
  | n + 1, q, h => by
    unfold nameL
    split
    · rename_i c
      obtain ⟨a, b, d, e, f⟩ := nameL_rd n (advF q) (by show (0 : Int) ≤ q.1 + 1; omega)
      have e1 : (advF q).1 = q.1 + 1 := rfl
      rw [e1] at a b d f
      refine ⟨by omega, by omega, fun j x y => ?_, e, ?_⟩
      · by_cases z : (j : Int) = q.1
        · have := (here_l h).mp c
          rw [show q.1.toNat = j by omega] at this
          exact this
        · exact d j (by omega) y
      · rcases f with f | f
        · exact Or.inl (by omega)
        · exact Or.inr f
    · rename_i c
      exact ⟨Int.le_refl _, by omega, fun j a b => by omega, rfl, Or.inr (fun z => c ((here_l h).mpr z))⟩
theorem aR_rd {q : PS} (h0 : 0 ≤ q.1) (h : (aR sr len q).1 = true) : namS (clip sr len) q.1.toNat (aR sr len q).2.1.toNat ∧ q.1 < (aR sr len q).2.1 ∧ (aR sr len q).2.2 = q.2 := by
  have hb : nameB sr len q := by simpa [aR] using h
  have e : (aR sr len q).2 = nameL sr len 7 q := by
    show nameF sr len q = _
    unfold nameF
    rw [if_pos hb]
  rw [e]
  obtain ⟨a, b, d, f, g⟩ := nameL_rd (sr := sr) (len := len) 7 q h0
  have hlt : q.1 < (nameL sr len 7 q).1 := by
    obtain ⟨a', -, -, -, -⟩ := nameL_rd (sr := sr) (len := len) 6 (advF q) (by show (0 : Int) ≤ q.1 + 1; omega)
    have e1 : (advF q).1 = q.1 + 1 := rfl
    have e2 : nameL sr len 7 q = nameL sr len 6 (advF q) := by
      show (if 97 ≤ hereF sr len q.1 ∧ hereF sr len q.1 ≤ 122 then nameL sr len 6 (advF q) else q) = _
      rw [if_pos hb]
    rw [e2]
    omega
  exact ⟨⟨by omega, by omega, fun j x y => d j (by omega) (by omega), by rcases g with g | g; exact Or.inl (by omega); exact Or.inr g⟩, hlt, f⟩
theorem gR_rd {c : Int} {q : PS} (h0 : 0 ≤ q.1) (hc : ¬ c = -1) (h : (gR sr len c q).1 = true) : clip sr len q.1.toNat = c ∧ (gR sr len c q).2 = advF q := by
  have hb : hereF sr len q.1 = c := by simpa [gR] using h
  exact ⟨here_c h0 hb hc, by show signF sr len c q = _; unfold signF; rw [if_pos hb]⟩
end RD
/-- steps of some closer -/
def someC (sr : Nat → Int) (p E : Nat) : Prop := ∃ n, stsC sr n p E
theorem stepT_fuel {sr : Nat → Int} {p e : Nat} (h : stepT sr (someC sr) p e) : ∃ n, stepT sr (stsC sr n) p e := by
  rcases h with k | k | ⟨k1, q, k2, k3⟩ | k | k | k | k
  · exact ⟨0, Or.inl k⟩
  · exact ⟨0, Or.inr (Or.inl k)⟩
  · rcases k3 with k3 | ⟨k3, r, ⟨n, k4⟩, k5⟩
    · exact ⟨0, Or.inr (Or.inr (Or.inl ⟨k1, q, k2, Or.inl k3⟩))⟩
    · exact ⟨n, Or.inr (Or.inr (Or.inl ⟨k1, q, k2, Or.inr ⟨k3, r, k4, k5⟩⟩))⟩
  · exact ⟨0, Or.inr (Or.inr (Or.inr (Or.inl k)))⟩
  · exact ⟨0, Or.inr (Or.inr (Or.inr (Or.inr (Or.inl k))))⟩
  · exact ⟨0, Or.inr (Or.inr (Or.inr (Or.inr (Or.inr (Or.inl k)))))⟩
  · exact ⟨0, Or.inr (Or.inr (Or.inr (Or.inr (Or.inr (Or.inr k)))))⟩
theorem stepQ_fuel {sr : Nat → Int} {p e : Nat} (h : stepQ sr (someC sr) p e) : ∃ n, stepQ sr (stsC sr n) p e := by
  rcases h with k | ⟨k1, k2, k3, q, k4, k5, k6⟩
  · obtain ⟨n, k⟩ := stepT_fuel k
    exact ⟨n, Or.inl k⟩
  · obtain ⟨n, k⟩ := stepT_fuel k6
    exact ⟨n, Or.inr ⟨k1, k2, k3, q, k4, k5, k⟩⟩
section RS
variable {sr : Nat → Int} {len : Int}
theorem takeG_rd {steps : PS → Bool × PS} {w : Int} {q : PS} (h0 : 0 ≤ q.1) (ho : 0 ≤ q.2.2.2.2) (hu : ∀ q : PS, 0 ≤ q.1 → 0 ≤ q.2.2.2.2 → (steps q).1 = true → q.1 ≤ (steps q).2.1) (hs : ∀ q : PS, 0 ≤ q.1 → 0 ≤ q.2.2.2.2 → (steps q).1 = true → clip sr len (steps q).2.1.toNat = 125 → q.1 < (steps q).2.1 ∧ (steps q).2.2.2.2.2 = q.2.2.2.2 ∧ someC (clip sr len) q.1.toNat (steps q).2.1.toNat) (h : (takeG sr len steps w q).1 = true) :
    (∃ p : Nat, namS (clip sr len) q.1.toNat p ∧ (((takeG sr len steps w q).2.1.toNat = p ∧ ¬ clip sr len p = 123) ∨ (clip sr len p = 123 ∧ ∃ r : Nat, someC (clip sr len) (p + 1) r ∧ p + 1 ≤ r ∧ clip sr len r = 125 ∧ (takeG sr len steps w q).2.1.toNat = r + 1))) ∧ q.1 < (takeG sr len steps w q).2.1 ∧ (takeG sr len steps w q).2.2.2.2.2 = q.2.2.2.2 := by
  unfold takeG at h ⊢
  obtain ⟨a1, a2, a3⟩ := andR_s h
  rw [a3]
  obtain ⟨b1, b2, b3⟩ := aR_rd h0 a1
  try dsimp only at a2 ⊢
  by_cases c : hereF sr len (aR sr len q).2.1 = 123
  · rw [if_pos c] at a2 ⊢
    by_cases w2 : 2 < w
    · rw [if_pos w2] at a2; cases a2
    · rw [if_neg w2] at a2 ⊢
      obtain ⟨d1, d2, d3⟩ := andR_s a2
      rw [d3]
      have e1 : (advF (aR sr len q).2).1 = (aR sr len q).2.1 + 1 := rfl
      have e2 : (advF (aR sr len q).2).2 = (aR sr len q).2.2 := rfl
      have up : 0 ≤ (advF (aR sr len q).2).1 := by omega
      have upo : 0 ≤ (advF (aR sr len q).2).2.2.2.2 := by rw [e2, b3]; exact ho
      have ps := hu _ up upo d1
      obtain ⟨g1, g2⟩ := gR_rd (by omega) (by decide) d2
      obtain ⟨s1, s2, s3⟩ := hs _ up upo d1 g1
      rw [g2]
      have e3 : (advF (steps (advF (aR sr len q).2)).2).1 = (steps (advF (aR sr len q).2)).2.1 + 1 := rfl
      refine ⟨⟨_, b1, Or.inr ⟨here_c (by omega) c (by decide), (steps (advF (aR sr len q).2)).2.1.toNat, ?_, by omega, g1, by omega⟩⟩, by omega, ?_⟩
      · rw [e1] at s3
        rw [show (aR sr len q).2.1.toNat + 1 = ((aR sr len q).2.1 + 1).toNat by omega]; exact s3
      · show (steps (advF (aR sr len q).2)).2.2.2.2.2 = _
        rw [s2, e2, b3]
  · rw [if_neg c] at a2 ⊢
    exact ⟨⟨_, b1, Or.inl ⟨rfl, here_n (by omega) c (by decide)⟩⟩, b2, by rw [b3]⟩
/-- a step was read: how it lies there -/
def rdS (sr : Nat → Int) (len : Int) (it bh : Bool) (q q' : PS) : Prop := q.1 < q'.1 ∧
  ((it = false ∧ bh = true ∧ q'.2.2.2.2 = q.2.2.2.2 ∧ stepT (clip sr len) (someC (clip sr len)) q.1.toNat q'.1.toNat) ∨
   (bh = false ∧ q'.2.2.2.2 = q.2.2.2.2 ∧ stepQ (clip sr len) (someC (clip sr len)) q.1.toNat q'.1.toNat) ∨
   (it = true ∧ bh = false ∧ clip sr len q.1.toNat = 40 ∧ q'.1 = q.1 + 1 ∧ q'.2.2.2.2 = q.2.2.2.2 + 1) ∨
   (it = true ∧ bh = false ∧ clip sr len q.1.toNat = 41 ∧ q'.1 = q.1 + 1 ∧ 0 < q.2.2.2.2 ∧ q'.2.2.2.2 = q.2.2.2.2 - 1))
theorem stepR_rd {take inner : PS → Bool × PS} {it bh : Bool} {q : PS} (hib : it = true → bh = false) (h0 : 0 ≤ q.1) (ho : 0 ≤ q.2.2.2.2)
    (ht : ∀ q : PS, 0 ≤ q.1 → 0 ≤ q.2.2.2.2 → (take q).1 = true → (∃ p : Nat, namS (clip sr len) q.1.toNat p ∧ (((take q).2.1.toNat = p ∧ ¬ clip sr len p = 123) ∨ (clip sr len p = 123 ∧ ∃ r : Nat, someC (clip sr len) (p + 1) r ∧ p + 1 ≤ r ∧ clip sr len r = 125 ∧ (take q).2.1.toNat = r + 1))) ∧ q.1 < (take q).2.1 ∧ (take q).2.2.2.2.2 = q.2.2.2.2)
    (hi : bh = false → ∀ q : PS, 0 ≤ q.1 → 0 ≤ q.2.2.2.2 → (inner q).1 = true → q.1 < (inner q).2.1 ∧ (inner q).2.2.2.2.2 = q.2.2.2.2 ∧ stepT (clip sr len) (someC (clip sr len)) q.1.toNat (inner q).2.1.toNat)
    (h : (stepR sr len take inner it bh q).1 = true) : rdS sr len it bh q (stepR sr len take inner it bh q).2 := by
  unfold stepR at h ⊢
  by_cases so : stepOk (hereF sr len q.1) it bh q
  · rw [if_pos so] at h ⊢
    have e1 : (advF q).1 = q.1 + 1 := rfl
    have e2 : (advF q).2 = q.2 := rfl
    have a0 : 0 ≤ (advF q).1 := by omega
    have en : (advF q).1.toNat = q.1.toNat + 1 := by omega
    have eo : (advF q).2.2.2.2 = q.2.2.2.2 := rfl
    have pack : ∀ q' : PS, q.1 < q'.1 → q'.2.2.2.2 = q.2.2.2.2 → stepT (clip sr len) (someC (clip sr len)) q.1.toNat q'.1.toNat → rdS sr len it bh q q' := fun q' x y z => ⟨x, by
      cases hb : bh with
      | false => exact Or.inr (Or.inl ⟨rfl, y, Or.inl z⟩)
      | true =>
        cases hit : it with
        | false => exact Or.inl ⟨rfl, rfl, y, z⟩
        | true => rw [hib hit] at hb; cases hb⟩
    unfold stepG at h ⊢
    by_cases c1 : hereF sr len q.1 = 43
    · rw [if_pos c1] at h ⊢
      obtain ⟨u1, u2, u3⟩ := andR_s h
      obtain ⟨v1, v2, v3⟩ := andR_s u1
      rw [u3]
      rw [v3] at u2 ⊢
      obtain ⟨n1, n2, n3⟩ := nR_rd a0 (by decide) v1
      obtain ⟨g1, g2⟩ := gR_rd (by omega) (by decide) v2
      rw [g2] at u2 ⊢
      have e3 : (advF (nR sr len 1 0 7 (advF q)).2).1 = (nR sr len 1 0 7 (advF q)).2.1 + 1 := rfl
      have e4 : (advF (nR sr len 1 0 7 (advF q)).2).2.2.2.2 = (nR sr len 1 0 7 (advF q)).2.2.2.2.2 := rfl
      obtain ⟨w1, w2, w3⟩ := vR_rd (by omega) u2
      obtain ⟨m1, m2, m3⟩ := n1
      have ep : (nR sr len 1 0 7 (advF q)).2.1.toNat = q.1.toNat + 2 := by omega
      have dg := m3 (q.1.toNat + 1) (by omega) (by omega)
      have d7 : clip sr len (q.1.toNat + 1) ≤ 55 := by
        have hb : numberB sr len 1 0 7 (advF q) := by simpa [nR] using v1
        obtain ⟨hb1, -, hb3⟩ := hb
        have e5 : (numL sr len 1 ((advF q).1, (advF q).2.1, 0, (advF q).2.2.2)).2.2.1 = 10 * 0 + hereF sr len (advF q).1 - 48 := by
          unfold numL
          rw [if_pos hb1]
          unfold numL
          rfl
        rw [e5] at hb3
        have := here_c a0 (rfl : hereF sr len (advF q).1 = _) (by omega)
        rw [en] at this
        omega
      refine pack _ (by omega) (by omega) (Or.inl ⟨here_c h0 c1 (by decide), ⟨by unfold dgP at dg; omega, d7⟩, by rw [← ep]; exact g1, ?_⟩)
      rw [e3, show ((nR sr len 1 0 7 (advF q)).2.1 + 1).toNat = q.1.toNat + 3 by omega] at w1
      exact w1
    · rw [if_neg c1] at h ⊢
      by_cases c2 : hereF sr len q.1 = 33
      · rw [if_pos c2] at h ⊢
        obtain ⟨n1, n2, n3⟩ := nR_rd a0 (by decide) h
        exact pack _ (by omega) (by omega) (Or.inr (Or.inl ⟨here_c h0 c2 (by decide), by rw [← en]; exact n1⟩))
      · rw [if_neg c2] at h ⊢
        by_cases c3 : hereF sr len q.1 = 97
        · rw [if_pos c3] at h ⊢
          obtain ⟨⟨p, t1, t2⟩, t3, t4⟩ := ht _ a0 (by omega) h
          refine pack _ (by omega) (by omega) (Or.inr (Or.inr (Or.inl ⟨here_c h0 c3 (by decide), p, by rw [← en]; exact t1, ?_⟩)))
          exact t2
        · rw [if_neg c3] at h ⊢
          by_cases c4 : hereF sr len q.1 = 120
          · rw [if_pos c4] at h ⊢
            obtain ⟨n1, n2, n3⟩ := aR_rd a0 h
            exact pack _ (by omega) (by rw [n3]; rfl) (Or.inr (Or.inr (Or.inr (Or.inl ⟨here_c h0 c4 (by decide), by rw [← en]; exact n1⟩))))
          · rw [if_neg c4] at h ⊢
            by_cases c5 : hereF sr len q.1 = 109
            · rw [if_pos c5] at h ⊢
              obtain ⟨u1, u2, u3⟩ := andR_s h
              obtain ⟨v1, v2, v3⟩ := andR_s u1
              rw [u3]
              rw [v3] at u2 ⊢
              obtain ⟨n1, n2, n3⟩ := aR_rd a0 v1
              obtain ⟨g1, g2⟩ := gR_rd (by omega) (by decide) v2
              rw [g2] at u2 ⊢
              have e3 : (advF (aR sr len (advF q)).2).1 = (aR sr len (advF q)).2.1 + 1 := rfl
              have e4 : (advF (aR sr len (advF q)).2).2 = (aR sr len (advF q)).2.2 := rfl
              obtain ⟨w1, w2, w3⟩ := nR_rd (by omega) (by decide) u2
              refine pack _ (by omega) (by rw [w3, e4, n3]; rfl) (Or.inr (Or.inr (Or.inr (Or.inr (Or.inl ⟨here_c h0 c5 (by decide), (aR sr len (advF q)).2.1.toNat, by rw [← en]; exact n1, g1, ?_⟩)))))
              rw [e3, show ((aR sr len (advF q)).2.1 + 1).toNat = (aR sr len (advF q)).2.1.toNat + 1 by omega] at w1
              exact w1
            · rw [if_neg c5] at h ⊢
              by_cases c6 : hereF sr len q.1 = 107
              · rw [if_pos c6] at h ⊢
                obtain ⟨⟨m1, m2, m3⟩, n2, n3⟩ := nR_rd a0 (by decide) h
                have dg := m3 (q.1.toNat + 1) (by omega) (by omega)
                exact pack _ (by omega) (by omega) (Or.inr (Or.inr (Or.inr (Or.inr (Or.inr (Or.inl ⟨here_c h0 c6 (by decide), dg, by omega⟩))))))
              · rw [if_neg c6] at h ⊢
                by_cases c7 : hereF sr len q.1 = 63
                · rw [if_pos c7] at h ⊢
                  have bh0 : bh = false := by
                    rcases so with z | z | z | z | z | z | z | z | z
                    all_goals first | (exfalso; omega) | exact z.2 | (exfalso; have := z.1; omega)
                  obtain ⟨u1, u2, u3⟩ := andR_s h
                  obtain ⟨v1, v2, v3⟩ := andR_s u1
                  obtain ⟨x1, x2, x3⟩ := andR_s v1
                  obtain ⟨y1, y2, y3⟩ := andR_s x1
                  rw [u3]
                  rw [v3] at u2 ⊢
                  rw [x3] at v2 u2 ⊢
                  rw [y3] at x2 v2 u2 ⊢
                  obtain ⟨n1, n2, n3⟩ := nR_rd a0 (by decide) y1
                  obtain ⟨g1, g2⟩ := gR_rd (by omega) (by decide) y2
                  rw [g2] at x2 v2 u2 ⊢
                  have e3 : (advF (nR sr len 1 0 7 (advF q)).2).1 = (nR sr len 1 0 7 (advF q)).2.1 + 1 := rfl
                  have e4 : (advF (nR sr len 1 0 7 (advF q)).2).2.2.2.2 = (nR sr len 1 0 7 (advF q)).2.2.2.2.2 := rfl
                  obtain ⟨w1, w2, w3⟩ := vR_rd (by omega) x2
                  obtain ⟨k1, k2⟩ := gR_rd (by omega) (by decide) v2
                  rw [k2] at u2 ⊢
                  have e5 : (advF (vR sr len (advF (nR sr len 1 0 7 (advF q)).2)).2).1 = (vR sr len (advF (nR sr len 1 0 7 (advF q)).2)).2.1 + 1 := rfl
                  have e6 : (advF (vR sr len (advF (nR sr len 1 0 7 (advF q)).2)).2).2.2.2.2 = (vR sr len (advF (nR sr len 1 0 7 (advF q)).2)).2.2.2.2.2 := rfl
                  obtain ⟨i1, i2, i3⟩ := hi bh0 _ (by omega) (by omega) u2
                  obtain ⟨m1, m2, m3⟩ := n1
                  have ep : (nR sr len 1 0 7 (advF q)).2.1.toNat = q.1.toNat + 2 := by omega
                  have dg := m3 (q.1.toNat + 1) (by omega) (by omega)
                  have d7 : clip sr len (q.1.toNat + 1) ≤ 55 := by
                    have hb : numberB sr len 1 0 7 (advF q) := by simpa [nR] using y1
                    obtain ⟨hb1, -, hb3⟩ := hb
                    have e5 : (numL sr len 1 ((advF q).1, (advF q).2.1, 0, (advF q).2.2.2)).2.2.1 = 10 * 0 + hereF sr len (advF q).1 - 48 := by
                      unfold numL
                      rw [if_pos hb1]
                      unfold numL
                      rfl
                    rw [e5] at hb3
                    have := here_c a0 (rfl : hereF sr len (advF q).1 = _) (by omega)
                    rw [en] at this
                    omega
                  refine ⟨by omega, Or.inr (Or.inl ⟨bh0, by omega, Or.inr ⟨here_c h0 c7 (by decide), ⟨by unfold dgP at dg; omega, d7⟩, by rw [← ep]; exact g1, (vR sr len (advF (nR sr len 1 0 7 (advF q)).2)).2.1.toNat, ?_, k1, ?_⟩⟩)⟩
                  · rw [e3, show ((nR sr len 1 0 7 (advF q)).2.1 + 1).toNat = q.1.toNat + 3 by omega] at w1
                    exact w1
                  · rw [e5, show ((vR sr len (advF (nR sr len 1 0 7 (advF q)).2)).2.1 + 1).toNat = (vR sr len (advF (nR sr len 1 0 7 (advF q)).2)).2.1.toNat + 1 by omega] at i3
                    exact i3
                · rw [if_neg c7] at h ⊢
                  have f1 : (openF (hereF sr len q.1) (advF q)).1 = q.1 + 1 := rfl
                  have f2 : (openF (hereF sr len q.1) (advF q)).2.2.2.2 = q.2.2.2.2 + (if hereF sr len q.1 = 40 then 1 else if hereF sr len q.1 = 41 then -1 else 0) := rfl
                  rcases so with z | z | z | z | z | z | z | z | ⟨z | z, hit⟩
                  · exact absurd z c1
                  · exact absurd z c2
                  · exact absurd z c3
                  · exact absurd z c4
                  · exact absurd z c5
                  · exact absurd z c6
                  · refine pack _ (by dsimp only; omega) ?_ (Or.inr (Or.inr (Or.inr (Or.inr (Or.inr (Or.inr ⟨here_c h0 z (by decide), by dsimp only; omega⟩))))))
                    dsimp only
                    rw [f2, if_neg (by omega), if_neg (by omega)]; omega
                  · exact absurd z.1 c7
                  · refine ⟨by dsimp only; omega, Or.inr (Or.inr (Or.inl ⟨hit, hib hit, here_c h0 z (by decide), f1, ?_⟩))⟩
                    dsimp only
                    rw [f2, if_pos z]
                  · refine ⟨by dsimp only; omega, Or.inr (Or.inr (Or.inr ⟨hit, hib hit, here_c h0 z.1 (by decide), f1, z.2, ?_⟩))⟩
                    dsimp only
                    rw [f2, if_neg (by omega), if_pos z.1]; omega
  · rw [if_neg so] at h; cases h
/-- rows of steps that were read -/
theorem stepsL_rd {st : PS → Bool × PS} {it : Bool} (hst : ∀ q : PS, 0 ≤ q.1 → 0 ≤ q.2.2.2.2 → (st q).1 = true → rdS sr len it false q (st q).2) : ∀ (k : Nat) (n : Int) (r : Bool × PS) (q : PS), 0 ≤ q.1 → 0 ≤ q.2.2.2.2 → r.1 = true → rdS sr len it false q r.2 → (stepsL sr len st k n r).1.1 = true → endC (clip sr len (stepsL sr len st k n r).1.2.1.toNat) → 
    q.1 < (stepsL sr len st k n r).1.2.1 ∧ 0 ≤ (stepsL sr len st k n r).1.2.2.2.2.2 ∧ (∃ f, stsT (clip sr len) f q.2.2.2.2.toNat q.1.toNat (stepsL sr len st k n r).1.2.1.toNat) ∧ (it = false → (stepsL sr len st k n r).1.2.2.2.2.2 = q.2.2.2.2 ∧ someC (clip sr len) q.1.toNat (stepsL sr len st k n r).1.2.1.toNat)
  | k, n, r, q, h0, ho, hr, hq, h, he => by
    have ro : 0 ≤ r.2.2.2.2.2 := by
      obtain ⟨-, z | z | z | z⟩ := hq
      · omega
      · omega
      · omega
      · omega
    have stop : endC (clip sr len r.2.1.toNat) → ((stepsL sr len st k n r).1.2.1 = r.2.1) → ((stepsL sr len st k n r).1.2.2.2.2.2 = r.2.2.2.2.2) → q.1 < (stepsL sr len st k n r).1.2.1 ∧ 0 ≤ (stepsL sr len st k n r).1.2.2.2.2.2 ∧ (∃ f, stsT (clip sr len) f q.2.2.2.2.toNat q.1.toNat (stepsL sr len st k n r).1.2.1.toNat) ∧ (it = false → (stepsL sr len st k n r).1.2.2.2.2.2 = q.2.2.2.2 ∧ someC (clip sr len) q.1.toNat (stepsL sr len st k n r).1.2.1.toNat) := by
      intro hE ep eo
      rw [ep, eo]
      obtain ⟨lt, z⟩ := hq
      refine ⟨lt, ro, ?_, fun hit => ?_⟩
      · rcases z with z | ⟨-, z1, z2⟩ | ⟨-, -, z1, z2, z3⟩ | ⟨-, -, z1, z2, z3, z4⟩
        · exact absurd z.2.1 (by decide)
        · obtain ⟨f, z2⟩ := stepQ_fuel z2
          exact ⟨f + 1, r.2.1.toNat, q.2.2.2.2.toNat, Or.inl ⟨z2, rfl⟩, hE, Or.inl rfl⟩
        · exact ⟨1, r.2.1.toNat, q.2.2.2.2.toNat + 1, Or.inr (Or.inl ⟨z1, by omega, rfl⟩), hE, Or.inl rfl⟩
        · exact ⟨1, r.2.1.toNat, q.2.2.2.2.toNat - 1, Or.inr (Or.inr ⟨z1, by omega, by omega⟩), hE, Or.inl rfl⟩
      · rcases z with z | ⟨-, z1, z2⟩ | ⟨z0, -⟩ | ⟨z0, -⟩
        · exact absurd z.2.1 (by decide)
        · obtain ⟨f, z2⟩ := stepQ_fuel z2
          exact ⟨z1, f + 1, r.2.1.toNat, z2, hE, Or.inl rfl⟩
        · rw [hit] at z0; cases z0
        · rw [hit] at z0; cases z0
    cases k with
    | zero => exact stop he rfl rfl
    | succ k =>
      by_cases c : r.1 = true ∧ hereF sr len r.2.1 = 59
      · have e : stepsL sr len st (k + 1) n r = stepsL sr len st k (n + 1) (st (advF r.2)) := by
          show (if r.1 = true ∧ hereF sr len r.2.1 = 59 then stepsL sr len st k (n + 1) (st (advF r.2)) else (r, n)) = _
          rw [if_pos c]
        rw [e] at h he ⊢
        have lt := hq.1
        have e1 : (advF r.2).1 = r.2.1 + 1 := rfl
        have e2 : (advF r.2).2.2.2.2 = r.2.2.2.2.2 := rfl
        have s1 : (st (advF r.2)).1 = true := by
          cases hs : (st (advF r.2)).1 with
          | true => rfl
          | false =>
            exfalso
            have q1 : ∀ k n, stepsL sr len st k n (st (advF r.2)) = (st (advF r.2), n) := by
              intro k n
              cases k with
              | zero => rfl
              | succ k =>
                show (if (st (advF r.2)).1 = true ∧ hereF sr len (st (advF r.2)).2.1 = 59 then stepsL sr len st k (n + 1) (st (advF (st (advF r.2)).2)) else (st (advF r.2), n)) = _
                rw [if_neg (by rw [hs]; exact fun z => absurd z.1 (by decide))]
            rw [q1] at h
            rw [hs] at h; cases h
        obtain ⟨i1, i2, ⟨f, i3⟩, i4⟩ := stepsL_rd hst k (n + 1) (st (advF r.2)) (advF r.2) (by omega) (by omega) s1 (hst _ (by omega) (by omega) s1) h he
        have semi := here_c (by omega) c.2 (by decide)
        obtain ⟨-, z⟩ := hq
        rw [e1] at i1 i3
        rw [e2] at i3
        have en : (r.2.1 + 1).toNat = r.2.1.toNat + 1 := by omega
        rw [en] at i3
        refine ⟨by omega, i2, ?_, fun hit => ?_⟩
        · rcases z with z | ⟨-, z1, z2⟩ | ⟨-, -, z1, z2, z3⟩ | ⟨-, -, z1, z2, z3, z4⟩
          · exact absurd z.2.1 (by decide)
          · obtain ⟨g, z2⟩ := stepQ_fuel z2
            refine ⟨(f + g) + 1, r.2.1.toNat, q.2.2.2.2.toNat, Or.inl ⟨stepQ_mono (fun a b => stsC_mono g (f + g) (by omega) a b) z2, rfl⟩, Or.inl semi, Or.inr ⟨by omega, semi, ?_⟩⟩
            rw [z1] at i3
            exact stsT_mono f (f + g) (by omega) _ _ _ i3
          · refine ⟨f + 1, r.2.1.toNat, q.2.2.2.2.toNat + 1, Or.inr (Or.inl ⟨z1, by omega, rfl⟩), Or.inl semi, Or.inr ⟨by omega, semi, ?_⟩⟩
            rw [z3, show (q.2.2.2.2 + 1).toNat = q.2.2.2.2.toNat + 1 by omega] at i3
            exact i3
          · refine ⟨f + 1, r.2.1.toNat, q.2.2.2.2.toNat - 1, Or.inr (Or.inr ⟨z1, by omega, by omega⟩), Or.inl semi, Or.inr ⟨by omega, semi, ?_⟩⟩
            rw [z4, show (q.2.2.2.2 - 1).toNat = q.2.2.2.2.toNat - 1 by omega] at i3
            exact i3
        · obtain ⟨i5, g, i6⟩ := i4 hit
          rw [e1, en] at i6
          rcases z with z | ⟨-, z1, z2⟩ | ⟨z0, -⟩ | ⟨z0, -⟩
          · exact absurd z.2.1 (by decide)
          · obtain ⟨g2, z2⟩ := stepQ_fuel z2
            refine ⟨by omega, (g + g2) + 1, r.2.1.toNat, stepQ_mono (fun a b => stsC_mono g2 (g + g2) (by omega) a b) z2, Or.inl semi, Or.inr ⟨by omega, semi, stsC_mono g (g + g2) (by omega) _ _ i6⟩⟩
          · rw [hit] at z0; cases z0
          · rw [hit] at z0; cases z0
      · have e : stepsL sr len st (k + 1) n r = (r, n) := by
          show (if r.1 = true ∧ hereF sr len r.2.1 = 59 then stepsL sr len st k (n + 1) (st (advF r.2)) else (r, n)) = _
          rw [if_neg c]
        rw [e] at he
        exact stop he (by rw [e]) (by rw [e])
theorem stepsR_rd {st : PS → Bool × PS} {it : Bool} (hst : ∀ q : PS, 0 ≤ q.1 → 0 ≤ q.2.2.2.2 → (st q).1 = true → rdS sr len it false q (st q).2) {q : PS} (h0 : 0 ≤ q.1) (ho : 0 ≤ q.2.2.2.2) (h : (stepsR sr len st q).1 = true) (he : endC (clip sr len (stepsR sr len st q).2.1.toNat)) :
    q.1 < (stepsR sr len st q).2.1 ∧ 0 ≤ (stepsR sr len st q).2.2.2.2.2 ∧ (∃ f, stsT (clip sr len) f q.2.2.2.2.toNat q.1.toNat (stepsR sr len st q).2.1.toNat) ∧ (it = false → (stepsR sr len st q).2.2.2.2.2 = q.2.2.2.2 ∧ someC (clip sr len) q.1.toNat (stepsR sr len st q).2.1.toNat) := by
  have s1 : (st q).1 = true := by
    cases hs : (st q).1 with
    | true => rfl
    | false =>
      exfalso
      have e : stepsR sr len st q = setN (st q, 1) := by
        unfold stepsR
        congr 1
        show (if (st q).1 = true ∧ hereF sr len (st q).2.1 = 59 then _ else (st q, 1)) = _
        rw [if_neg (by rw [hs]; exact fun z => absurd z.1 (by decide))]
      rw [e] at h
      have : (setN (st q, 1)).1 = (st q).1 := rfl
      rw [this, hs] at h; cases h
  exact stepsL_rd hst (len.toNat + 1) 1 (st q) q h0 ho s1 (hst q h0 ho s1) h he
theorem stepsL_up {st : PS → Bool × PS} {it : Bool} (hst : ∀ q : PS, 0 ≤ q.1 → 0 ≤ q.2.2.2.2 → (st q).1 = true → rdS sr len it false q (st q).2) : ∀ (k : Nat) (n : Int) (r : Bool × PS), 0 ≤ r.2.1 → 0 ≤ r.2.2.2.2.2 → (stepsL sr len st k n r).1.1 = true → r.2.1 ≤ (stepsL sr len st k n r).1.2.1
  | 0, n, r, h0, ho, h => Int.le_refl _
  | k + 1, n, r, h0, ho, h => by
    by_cases c : r.1 = true ∧ hereF sr len r.2.1 = 59
    · have e : stepsL sr len st (k + 1) n r = stepsL sr len st k (n + 1) (st (advF r.2)) := by
        show (if r.1 = true ∧ hereF sr len r.2.1 = 59 then stepsL sr len st k (n + 1) (st (advF r.2)) else (r, n)) = _
        rw [if_pos c]
      rw [e] at h ⊢
      have e1 : (advF r.2).1 = r.2.1 + 1 := rfl
      have e2 : (advF r.2).2.2.2.2 = r.2.2.2.2.2 := rfl
      cases hs : (st (advF r.2)).1 with
      | true =>
        have z := hst _ (by omega) (by omega) hs
        have z1 := z.1
        have zo : 0 ≤ (st (advF r.2)).2.2.2.2.2 := by
          obtain ⟨-, z | z | z | z⟩ := z <;> omega
        have := stepsL_up hst k (n + 1) (st (advF r.2)) (by omega) zo h
        omega
      | false =>
        exfalso
        have q1 : stepsL sr len st k (n + 1) (st (advF r.2)) = (st (advF r.2), n + 1) := by
          cases k with
          | zero => rfl
          | succ k =>
            show (if (st (advF r.2)).1 = true ∧ hereF sr len (st (advF r.2)).2.1 = 59 then stepsL sr len st k (n + 1 + 1) (st (advF (st (advF r.2)).2)) else (st (advF r.2), n + 1)) = _
            rw [if_neg (by rw [hs]; exact fun z => absurd z.1 (by decide))]
        rw [q1] at h
        rw [hs] at h; cases h
    · have e : stepsL sr len st (k + 1) n r = (r, n) := by
        show (if r.1 = true ∧ hereF sr len r.2.1 = 59 then stepsL sr len st k (n + 1) (st (advF r.2)) else (r, n)) = _
        rw [if_neg c]
      rw [e]; exact Int.le_refl _
theorem stepN_rd : ∀ (n : Nat) (w : Int) (it bh : Bool) (q : PS), (it = true → bh = false) → 0 ≤ q.1 → 0 ≤ q.2.2.2.2 → (stepN sr len n w it bh q).1 = true → rdS sr len it bh q (stepN sr len n w it bh q).2
  | 0, w, it, bh, q, _, _, _, h => by cases h
  | n + 1, w, it, bh, q, hib, h0, ho, h => by
    have hst : ∀ q : PS, 0 ≤ q.1 → 0 ≤ q.2.2.2.2 → (stepN sr len n (w + 1) false false q).1 = true → rdS sr len false false q (stepN sr len n (w + 1) false false q).2 := fun q a b c => stepN_rd n (w + 1) false false q (fun _ => rfl) a b c
    refine stepR_rd hib h0 ho (fun q' g go h' => takeG_rd g go (fun q2 a b c => ?_) (fun q2 a b c d => ?_) h') (fun hb q' g go h' => ?_) h
    · cases hs : (stepN sr len n (w + 1) false false q2).1 with
      | true =>
        have z := hst q2 a b hs
        have z1 := z.1
        have zo : 0 ≤ (stepN sr len n (w + 1) false false q2).2.2.2.2.2 := by
          obtain ⟨-, z | z | z | z⟩ := z <;> omega
        have := stepsL_up hst (len.toNat + 1) 1 (stepN sr len n (w + 1) false false q2) (by omega) zo c
        have e : (stepsR sr len (stepN sr len n (w + 1) false false) q2).2.1 = (stepsL sr len (stepN sr len n (w + 1) false false) (len.toNat + 1) 1 (stepN sr len n (w + 1) false false q2)).1.2.1 := rfl
        omega
      | false =>
        exfalso
        have e : stepsR sr len (stepN sr len n (w + 1) false false) q2 = setN (stepN sr len n (w + 1) false false q2, 1) := by
          unfold stepsR
          congr 1
          show (if (stepN sr len n (w + 1) false false q2).1 = true ∧ hereF sr len (stepN sr len n (w + 1) false false q2).2.1 = 59 then _ else (stepN sr len n (w + 1) false false q2, 1)) = _
          rw [if_neg (by rw [hs]; exact fun z => absurd z.1 (by decide))]
        rw [e] at c
        have : (setN (stepN sr len n (w + 1) false false q2, 1)).1 = (stepN sr len n (w + 1) false false q2).1 := rfl
        rw [this, hs] at c; cases c
    · obtain ⟨i1, i2, i3, i4⟩ := stepsR_rd hst a b c (by rw [d]; exact Or.inr (Or.inl rfl))
      exact ⟨i1, (i4 rfl).1, (i4 rfl).2⟩
    · obtain ⟨z1, z⟩ := stepN_rd n w false true q' (fun z => by cases z) g go h'
      rcases z with z | z | z | z
      · exact ⟨z1, z.2.2.1, z.2.2.2⟩
      · exact absurd z.1 (by decide)
      · exact absurd z.1 (by decide)
      · exact absurd z.1 (by decide)
end RS
/-- a whole text that was read, of a closer -/
theorem readC {sr : Nat → Int} {len : Int} {q : PS} (h0 : 0 ≤ q.1) (ho : q.2.2.2.2 = 0) (h : (wR len (stepsW sr len 1 false q)).1 = true) : someC (clip sr len) q.1.toNat len.toNat ∧ q.1 < len := by
  by_cases c : (stepsW sr len 1 false q).1 = true
  · have e : wR len (stepsW sr len 1 false q) = wholeR len (stepsW sr len 1 false q).2 := by unfold wR; rw [if_pos c]
    rw [e] at h
    unfold wholeR at h
    split at h
    · rename_i g
      have he : clip sr len (stepsW sr len 1 false q).2.1.toNat = 0 := by unfold clip; rw [if_neg (by omega)]
      obtain ⟨i1, i2, i3, i4⟩ := stepsR_rd (fun q a b c => stepN_rd 8 1 false false q (fun _ => rfl) a b c) h0 (by omega) c (by rw [show (stepsR sr len (stepN sr len 8 1 false false) q).2.1 = (stepsW sr len 1 false q).2.1 from rfl, he]; exact Or.inr (Or.inr rfl))
      have z := (i4 rfl).2
      rw [show (stepsR sr len (stepN sr len 8 1 false false) q).2.1 = (stepsW sr len 1 false q).2.1 from rfl, g.1] at z i1
      exact ⟨z, i1⟩
    · cases h
  · have e : wR len (stepsW sr len 1 false q) = stepsW sr len 1 false q := by unfold wR; rw [if_neg c]
    rw [e] at h; exact absurd h c
/-- .. of a task -/
theorem readT {sr : Nat → Int} {len : Int} {q : PS} (h0 : 0 ≤ q.1) (ho : q.2.2.2.2 = 0) (h : (wR len (stepsW sr len 0 true q)).1 = true) : (∃ f, stsT (clip sr len) f 0 q.1.toNat len.toNat) ∧ q.1 < len := by
  by_cases c : (stepsW sr len 0 true q).1 = true
  · have e : wR len (stepsW sr len 0 true q) = wholeR len (stepsW sr len 0 true q).2 := by unfold wR; rw [if_pos c]
    rw [e] at h
    unfold wholeR at h
    split at h
    · rename_i g
      have he : clip sr len (stepsW sr len 0 true q).2.1.toNat = 0 := by unfold clip; rw [if_neg (by omega)]
      obtain ⟨i1, i2, i3, i4⟩ := stepsR_rd (fun q a b c => stepN_rd 8 0 true false q (fun _ => rfl) a b c) h0 (by omega) c (by rw [show (stepsR sr len (stepN sr len 8 0 true false) q).2.1 = (stepsW sr len 0 true q).2.1 from rfl, he]; exact Or.inr (Or.inr rfl))
      rw [show (stepsR sr len (stepN sr len 8 0 true false) q).2.1 = (stepsW sr len 0 true q).2.1 from rfl, g.1] at i3 i1
      rw [ho] at i3
      exact ⟨i3, i1⟩
    · cases h
  · have e : wR len (stepsW sr len 0 true q) = stepsW sr len 0 true q := by unfold wR; rw [if_neg c]
    rw [e] at h; exact absurd h c
end mg_81
section mg_82
/-! ===== what the reference's calls keep ===== -/
theorem likeAt.z {pool pool' : Nat → Int} {b : Int} (hp : ∀ q : Nat, (q : Int) < b → pool' q = pool q) {p E : Nat} (hE : (E : Int) < b) : likeAt pool pool' 0 p E := fun j _ h => hp (j + 0) (by omega)
theorem textT.pool {b b' : Int} {pool pool' : Nat → Int} {P E : Nat} (h : textT b pool P E) (hp : ∀ q : Nat, (q : Int) < b → pool' q = pool q) (hb : b ≤ b') : textT b' pool' P E := by
  obtain ⟨h1, h2, h3⟩ := h
  refine ⟨h1, h2, ?_⟩
  rcases h3 with h3 | ⟨h3, n, h4⟩
  · exact Or.inl h3
  · exact Or.inr ⟨by omega, n, stsC_at n P E (likeAt.z hp h3) h4⟩
theorem Mid.like {m m' pool pool' : Nat → Int} {B : Int} (h : Mid m pool B) (hM' : ∀ q, InR (m' q)) (hA : ∀ q, (q = 0 ∨ q = 1 ∨ q = 2 ∨ q = 4 ∨ q = 6 ∨ (18 ≤ q ∧ q < 1518)) → m' q = m q) (h3 : 0 ≤ m' 3 ∧ m' 3 ≤ 10) (h5 : m' 5 = m 5 ∨ m' 5 = 0) (h8 : m 8 ≤ m' 8 ∧ m' 8 ≤ 12200) (hp : ∀ q : Nat, (q : Int) < m 8 → pool' q = pool q) : Mid m' pool' B := by
  obtain ⟨⟨⟨hM, k0, k1, k2, k3, k4, k5, k7⟩, g2, g3, g4, g5, g6⟩, ⟨s1, s2, s3⟩, nc, ns⟩ := h
  have e0 := hA 0 (by omega)
  have e1 := hA 1 (by omega)
  have e2 := hA 2 (by omega)
  have e4 := hA 4 (by omega)
  have e6 := hA 6 (by omega)
  have e : ∀ q, 18 ≤ q → q < 1518 → m' q = m q := fun q a b => hA q (by omega)
  have c : cnt (clsB m') (m 1).toNat = cnt (clsB m) (m 1).toNat := cnt_congr _ (fun q hq => by unfold clsB; rw [e _ (by omega) (by omega)])
  refine ⟨⟨⟨hM', ?_⟩, ?_⟩, ?_, ?_, ?_⟩
  · rw [e0, e1, e2, e4]
    exact ⟨k0, k1, k2, h3, k4, by omega, fun t ht => by rw [e _ (by omega) (by omega)]; exact k7 t ht⟩
  · rw [e0, e1, e2, e4, e6, c]
    refine ⟨⟨g2.1, by omega, h8.2⟩, fun t ht => ?_, ⟨g4.1, g4.2.1, by omega⟩, g5, fun t j ht hj => by rw [e _ (by omega) (by omega)]; exact g6 t j ht hj⟩
    have z := g3 t ht
    unfold thOk at z ⊢
    rw [e (258 + 14 * t) (by omega) (by omega), e (259 + 14 * t) (by omega) (by omega), e (260 + 14 * t) (by omega) (by omega), e (261 + 14 * t) (by omega) (by omega), e (262 + 14 * t) (by omega) (by omega), e (263 + 14 * t) (by omega) (by omega), e0, e6]
    obtain ⟨z1, z2, z3, P, E, z4, z5, z6⟩ := z
    exact ⟨z1, z2, z3, P, E, z4, z5, z6.pool hp h8.1⟩
  · refine ⟨by rw [e _ (by omega) (by omega)]; exact s1, by rw [e _ (by omega) (by omega)]; exact s2, fun u hu => ?_⟩
    rw [e0] at hu
    obtain ⟨a, b⟩ := s3 u hu
    rw [e (18 + 4 * u) (by omega) (by omega), e (19 + 4 * u) (by omega) (by omega), e (20 + 4 * u) (by omega) (by omega), e6]
    refine ⟨a, fun g => ?_⟩
    obtain ⟨b1, b2, b3⟩ := b g
    rw [e (18 + 4 * (m (19 + 4 * u)).toNat) (by omega) (by omega)]
    exact ⟨b1, b2, b3⟩
  · intro t ht
    rw [e1] at ht
    rw [e _ (by omega) (by omega)]; exact nc t ht
  · intro u hu
    rw [e0] at hu
    rw [e _ (by omega) (by omega)]; exact ns u hu
theorem tkB.pool {m pool pool' : Nat → Int} {t : Nat} (h : tkB m pool t) (hp : ∀ q : Nat, (q : Int) < m 8 → pool' q = pool q) : tkB m pool' t := by
  obtain ⟨a1, a2, a3, a4, a5, a6, a7, a9, P, E, b1, b2, b3, b4, b5, k, b6⟩ := h
  exact ⟨a1, a2, a3, a4, a5, a6, a7, a9, P, E, b1, b2, b3, b4, b5, k, stsT_at k 0 P E (likeAt.z hp b3) b6⟩
theorem rdOk.pool {m pool pool' : Nat → Int} {t : Nat} (h : rdOk m pool t) (hb : tkB m pool t) (hp : ∀ q : Nat, (q : Int) < m 8 → pool' q = pool q) : rdOk m pool' t := by
  intro z
  obtain ⟨o, P, E, p, b1, b2, b3, b4, b5, b6, k, b7⟩ := h z
  obtain ⟨a1, a2, a3, a4, a5, a6, a7, a9, P', E', c1, c2, c3, -⟩ := hb
  have : E = E' := by omega
  subst this
  exact ⟨o, P, E, p, b1, b2, b3, b4, b5, b6, k, stsT_at k o p E (likeAt.z hp c3) b7⟩
theorem TkM.like {m m' pool pool' : Nat → Int} (h : TkM m pool 99) (h3 : m 3 ≤ 10) (h0 : m 0 ≤ m' 0) (h60 : m 0 ≤ 60) (h7 : m 7 ≤ m' 7) (h8 : m 8 ≤ m' 8) (hpar : ∀ c : Nat, 1 ≤ c → (c : Int) < m 0 → m' (19 + 4 * c) = m (19 + 4 * c)) (hp : ∀ q : Nat, (q : Int) < m 8 → pool' q = pool q) (hs : ∀ t : Nat, (t : Int) < m' 3 → ((t : Int) < m 3 ∧ sameTk m m' t) ∨ (tkB m' pool' t ∧ rdOk m' pool' t)) : TkM m' pool' 99 := by
  have q7 := h.1
  refine ⟨by omega, fun t ht => ?_⟩
  rcases hs t ht with ⟨a, b⟩ | ⟨a, b⟩
  · obtain ⟨c, d⟩ := h.2 t a
    have d' := d (by omega)
    exact ⟨(c.pool hp).same b h0 h60 h7 h8 hpar, fun _ => (d'.pool c hp).same b⟩
  · exact ⟨a, fun _ => b⟩
def All (m pool : Nat → Int) (B T : Int) : Prop := Mid m pool B ∧ TkM m pool 99 ∧ m 7 ≤ T ∧ m 8 ≤ 121 * (m 1 + m 3)
theorem All.up {m pool : Nat → Int} {B T B' T' : Int} (h : All m pool B T) (hb : B ≤ B') (ht : T ≤ T') : All m pool B' T' := ⟨h.1.up hb, h.2.1, by have := h.2.2.1; omega, h.2.2.2⟩
theorem All.pool {m pool pool' : Nat → Int} {B T : Int} (h : All m pool B T) (hp : ∀ q : Nat, (q : Int) < m 8 → pool' q = pool q) : All m pool' B T := by
  have g := h.1.1.2.1
  have k0 := h.1.1.1.2.1
  have k3 := h.1.1.1.2.2.2.2.1
  refine ⟨h.1.like h.1.1.1.1 (fun _ _ => rfl) k3 (Or.inl rfl) ⟨Int.le_refl _, g.2.2⟩ hp, ?_, h.2.2⟩
  exact h.2.1.like k3.2 (Int.le_refl _) k0.2 (Int.le_refl _) (Int.le_refl _) (fun _ _ _ => rfl) hp (fun t ht => Or.inl ⟨ht, fun _ _ _ _ => rfl, Or.inl rfl⟩)
/-- a counter, or the count of a call's faults -/
theorem All.low {m pool : Nat → Int} {B T : Int} (h : All m pool B T) {k : Nat} {v : Int} (hv : InR v) (hk : (10 ≤ k ∧ k < 18) ∨ (k = 5 ∧ v = 0)) : All (updI m k v) pool B T := by
  have g := h.1.1.2.1
  have k0 := h.1.1.1.2.1
  have k3 := h.1.1.1.2.2.2.2.1
  have e : ∀ q, ¬ q = k → updI m k v q = m q := fun q a => updI_n a
  refine ⟨h.1.like (updM_in h.1.1.1.1 hv) (fun q hq => e q (by omega)) (by rw [e 3 (by omega)]; exact k3) ?_ (by rw [e 8 (by omega)]; exact ⟨Int.le_refl _, g.2.2⟩) (fun _ _ => rfl), ?_, ?_⟩
  · rcases hk with hk | ⟨rfl, rfl⟩
    · exact Or.inl (e 5 (by omega))
    · exact Or.inr updI_s
  · exact h.2.1.like k3.2 (by rw [e 0 (by omega)]; exact Int.le_refl _) k0.2 (by rw [e 7 (by omega)]; exact Int.le_refl _) (by rw [e 8 (by omega)]; exact Int.le_refl _) (fun c _ _ => e _ (by omega)) (fun _ _ => rfl) (fun t ht => Or.inl ⟨by rw [e 3 (by omega)] at ht; exact ht, fun q _ _ _ => e q (by omega), Or.inl (e _ (by omega))⟩)
  · rw [e 7 (by omega), e 8 (by omega), e 1 (by omega), e 3 (by omega)]; exact h.2.2
/-- what closers and shuttings did -/
theorem All.es {m m' pool : Nat → Int} {B B' T : Int} (h : All m pool B T) (hi : Inv m' pool B') (hs : ScI m') (k : Es m m') : All m' pool B' T := by
  have k0 := h.1.1.1.2.1
  have k3 := h.1.1.1.2.2.2.2.1
  have e3 : m' 3 = m 3 := k.1 3 (Or.inr (Or.inl rfl))
  have e7 : m' 7 = m 7 := k.1 7 (Or.inr (Or.inr (Or.inl rfl)))
  have e8 : m' 8 = m 8 := k.1 8 (Or.inr (Or.inr (Or.inr (Or.inl rfl))))
  have k1 := k.2.2.1
  obtain ⟨hm, ht, h7, h8⟩ := h
  exact ⟨⟨hi, hs, k.2.2.2.1 hm.2.2.1, k.ns hm.2.2.2 k0.2⟩, ht.es k k3.2 k0.2, by omega, by omega⟩
/-- a cell of a task -/
theorem All.task {m pool : Nat → Int} {B T : Int} (h : All m pool B T) {k t : Nat} {v : Int} (hv : InR v) (ht : (t : Int) < m 3) (hk : (k = 1614 + 72 * t ∧ v = 1) ∨ (k = 1609 + 72 * t ∧ -99 ≤ v ∧ v ≤ 99)) : All (updI m k v) pool B T := by
  have g := h.1.1.2.1
  have k0 := h.1.1.1.2.1
  have k3 := h.1.1.1.2.2.2.2.1
  have e : ∀ q, ¬ q = k → updI m k v q = m q := fun q a => updI_n a
  refine ⟨h.1.like (updM_in h.1.1.1.1 hv) (fun q hq => e q (by omega)) (by rw [e 3 (by omega)]; exact k3) (Or.inl (e 5 (by omega))) (by rw [e 8 (by omega)]; exact ⟨Int.le_refl _, g.2.2⟩) (fun _ _ => rfl), ?_, by rw [e 7 (by omega), e 8 (by omega), e 1 (by omega), e 3 (by omega)]; exact h.2.2⟩
  refine h.2.1.like k3.2 (by rw [e 0 (by omega)]; exact Int.le_refl _) k0.2 (by rw [e 7 (by omega)]; exact Int.le_refl _) (by rw [e 8 (by omega)]; exact Int.le_refl _) (fun c _ _ => e _ (by omega)) (fun _ _ => rfl) (fun u hu => ?_)
  rw [e 3 (by omega)] at hu
  rcases hk with ⟨rfl, rfl⟩ | ⟨rfl, hk⟩
  · refine Or.inl ⟨hu, fun q a b c => e q (by omega), ?_⟩
    by_cases z : u = t
    · subst z; exact Or.inr updI_s
    · exact Or.inl (e _ (by omega))
  · by_cases z : u = t
    · subst z
      obtain ⟨c, d⟩ := h.2.1.2 u hu
      have d' := d (by omega)
      refine Or.inr ⟨?_, ?_⟩
      · obtain ⟨a1, a2, a3, a4, a5, a6, ⟨n, a7, a8⟩, a9, a10⟩ := c
        unfold tkB
        rw [updI_s, e 7 (by omega), e 8 (by omega), e (1610 + 72 * u) (by omega), e (1614 + 72 * u) (by omega), e (1612 + 72 * u) (by omega), e (1613 + 72 * u) (by omega), e (1615 + 72 * u) (by omega), e (1608 + 72 * u) (by omega), e (1620 + 72 * u) (by omega), e (1619 + 72 * u) (by omega), e (1611 + 72 * u) (by omega), e (1616 + 72 * u) (by omega), e (1617 + 72 * u) (by omega)]
        refine ⟨hk, a2, a3, a4, a5, a6, ⟨n, a7, a8.1, fun k hk => ?_, fun k hk => ?_⟩, a9, a10⟩
        · rw [e _ (by omega), e 0 (by omega)]; exact a8.2.1 k hk
        · have z1 := a8.2.1 (k + 1) hk
          rw [e (1620 + 72 * u + (k + 1)) (by omega), e (1620 + 72 * u + k) (by omega), e _ (by omega)]; exact a8.2.2 k hk
      · unfold rdOk at d' ⊢
        rw [e (1610 + 72 * u) (by omega), e (1615 + 72 * u) (by omega), e (1619 + 72 * u) (by omega), e (1611 + 72 * u) (by omega), e (1616 + 72 * u) (by omega), e (1617 + 72 * u) (by omega)]
        exact d'
    · exact Or.inl ⟨hu, fun q a b c => e q (by omega), Or.inl (e _ (by omega))⟩
/-- a scope comes by a call -/
theorem All.opens {m pool : Nat → Int} {B T : Int} (h : All m pool B T) {C p : Nat} {t : Int} (hC : m 0 = (C : Int)) (hC2 : C ≤ 59) (hp : p < C) (hp0 : m (18 + 4 * p) = 0) (ht : InR t) (hB : B ≤ 2000000000) : All (opensM m C p t) pool (B + 1) T := by
  obtain ⟨o0, o1, o2, o3, o4, o6, oe⟩ := opensM_at (m := m) (C := C) (p := (p : Int)) (t := t)
  have k0 := h.1.1.1.2.1
  have k3 := h.1.1.1.2.2.2.2.1
  refine ⟨mid_opens h.1 hC hC2 hp hp0 ht hB, ?_, by rw [oe 7 (by omega) (by omega) (by omega), oe 8 (by omega) (by omega) (by omega), oe 1 (by omega) (by omega) (by omega), oe 3 (by omega) (by omega) (by omega)]; exact h.2.2⟩
  exact h.2.1.like k3.2 (by rw [o0]; omega) k0.2 (by rw [oe 7 (by omega) (by omega) (by omega)]; exact Int.le_refl _) (by rw [oe 8 (by omega) (by omega) (by omega)]; exact Int.le_refl _) (fun c _ _ => oe _ (by omega) (by omega) (by omega)) (fun _ _ => rfl) (fun u hu => Or.inl ⟨by rw [oe 3 (by omega) (by omega) (by omega)] at hu; exact hu, fun q _ _ _ => oe q (by omega) (by omega) (by omega), Or.inl (oe _ (by omega) (by omega) (by omega))⟩)
/-- the pool's end goes up, over a text that was laid there -/
theorem All.grow {m pool pool' : Nat → Int} {B T b : Int} (h : All m pool B T) (hb : m 8 ≤ b ∧ b ≤ 12200) (hp : ∀ q : Nat, (q : Int) < m 8 → pool' q = pool q) : Mid (updI m 8 b) pool' B ∧ TkM (updI m 8 b) pool' 99 := by
  have g := h.1.1.2.1
  have k0 := h.1.1.1.2.1
  have k3 := h.1.1.1.2.2.2.2.1
  have e : ∀ q, ¬ q = 8 → updI m 8 b q = m q := fun q a => updI_n a
  refine ⟨h.1.like (updM_in h.1.1.1.1 ⟨by omega, by omega⟩) (fun q hq => e q (by omega)) (by rw [e 3 (by omega)]; exact k3) (Or.inl (e 5 (by omega))) (by rw [updI_s]; exact hb) hp, ?_⟩
  exact h.2.1.like k3.2 (by rw [e 0 (by omega)]; exact Int.le_refl _) k0.2 (by rw [e 7 (by omega)]; exact Int.le_refl _) (by rw [updI_s]; exact hb.1) (fun c _ _ => e _ (by omega)) hp (fun u hu => Or.inl ⟨by rw [e 3 (by omega)] at hu; exact hu, fun q _ _ _ => e q (by omega), Or.inl (e _ (by omega))⟩)
theorem pooledP_at {pool tape : Nat → Int} {p a b : Nat} (q : Nat) : pooledP pool tape p a b q = if q = p + (b - a) then 0 else if p ≤ q ∧ q < p + (b - a) then tape (a + (q - p)) else pool q := by
  unfold pooledP updI
  by_cases c : q = p + (b - a)
  · rw [if_pos c, if_pos c]
  · rw [if_neg c, if_neg c]; rfl
theorem pooledP_low {pool tape : Nat → Int} {p a b : Nat} {q : Nat} (h : q < p) : pooledP pool tape p a b q = pool q := by
  rw [pooledP_at, if_neg (by omega), if_neg (by omega)]
theorem pooledP_ok {pool tape : Nat → Int} (hp : poolOk pool) (ht : bytesOk tape) {p a b : Nat} : poolOk (pooledP pool tape p a b) := by
  intro q
  rw [pooledP_at]
  split
  · decide
  · split
    · exact ht _
    · exact hp q
/-! the same text further ahead -/
section DN
variable {sr sr' : Nat → Int} {d : Nat}
theorem numS_dn {p e k : Nat} (h : likeAt sr sr' d p e) (n : numS sr' (p + d) (e + d) k) : numS sr p e k := by
  obtain ⟨n1, n2, n3⟩ := n
  exact ⟨by omega, by omega, fun j a b => by rw [← h j a (by omega)]; exact n3 _ (by omega) (by omega)⟩
theorem sgnS_dn {p e : Nat} (h : likeAt sr sr' d p e) (n : sgnS sr' (p + d) (e + d)) : sgnS sr p e := by
  have hl := sgnS_lt n
  rcases n with ⟨n1, n2⟩ | n
  · refine Or.inl ⟨by rw [← h p (by omega) (by omega)]; exact n1, numS_dn (d := d) (h.sub (by omega) (by omega)) ?_⟩
    rw [show p + 1 + d = p + d + 1 by omega]; exact n2
  · exact Or.inr (numS_dn h n)
theorem namS_dn {p e : Nat} (h : likeAt sr sr' d p e) (n : namS sr' (p + d) (e + d)) : namS sr p e := by
  obtain ⟨n1, n2, n3, n4⟩ := n
  refine ⟨by omega, by omega, fun j a b => by rw [← h j a (by omega)]; exact n3 _ (by omega) (by omega), ?_⟩
  rcases n4 with n4 | n4
  · exact Or.inl (by omega)
  · exact Or.inr (by rw [← h e (by omega) (by omega)]; exact n4)
theorem stepT_dn {s1 s2 : Nat → Nat → Prop} {p e : Nat} (h : likeAt sr sr' d p e) (hs : ∀ a b, p ≤ a → b ≤ e → s2 (a + d) (b + d) → s1 a b) (k : stepT sr' s2 (p + d) (e + d)) : stepT sr s1 p e := by
  have hlt := stepT_lt k
  have hp : sr' (p + d) = sr p := h p (by omega) (by omega)
  rcases k with ⟨k1, k2, k3, k4⟩ | ⟨k1, k2⟩ | ⟨k1, q', k2, k3⟩ | ⟨k1, k2⟩ | ⟨k1, q', k2, k3, k4⟩ | ⟨k1, k2, k3⟩ | ⟨k1, k2⟩
  · have hl := sgnS_lt k4
    have h1 : sr' (p + d + 1) = sr (p + 1) := by rw [show p + d + 1 = p + 1 + d by omega]; exact h _ (by omega) (by omega)
    have h2 : sr' (p + d + 2) = sr (p + 2) := by rw [show p + d + 2 = p + 2 + d by omega]; exact h _ (by omega) (by omega)
    refine Or.inl ⟨hp.symm.trans k1, by rw [← h1]; exact k2, h2.symm.trans k3, sgnS_dn (d := d) (h.sub (by omega) (by omega)) ?_⟩
    rw [show p + 3 + d = p + d + 3 by omega]; exact k4
  · refine Or.inr (Or.inl ⟨hp.symm.trans k1, numS_dn (d := d) (h.sub (by omega) (by omega)) ?_⟩)
    rw [show p + 1 + d = p + d + 1 by omega]; exact k2
  · have hn := k2.1
    obtain ⟨q, rfl⟩ : ∃ q, q' = q + d := ⟨q' - d, by omega⟩
    have hqe : q ≤ e := by rcases k3 with ⟨k3, _⟩ | ⟨_, r, _, k4, _, k5⟩ <;> omega
    refine Or.inr (Or.inr (Or.inl ⟨hp.symm.trans k1, q, namS_dn (d := d) (h.sub (by omega) (by omega)) ?_, ?_⟩))
    · rw [show p + 1 + d = p + d + 1 by omega]; exact k2
    · rcases k3 with ⟨k3, k4⟩ | ⟨k3, r', k4, k5, k6, k7⟩
      · exact Or.inl ⟨by omega, by rw [← h q (by omega) (by omega)]; exact k4⟩
      · obtain ⟨r, rfl⟩ : ∃ r, r' = r + d := ⟨r' - d, by omega⟩
        refine Or.inr ⟨(h q (by omega) (by omega)).symm.trans k3, r, hs _ _ (by omega) (by omega) ?_, by omega, (h r (by omega) (by omega)).symm.trans k6, by omega⟩
        rw [show q + 1 + d = q + d + 1 by omega]; exact k4
  · refine Or.inr (Or.inr (Or.inr (Or.inl ⟨hp.symm.trans k1, namS_dn (d := d) (h.sub (by omega) (by omega)) ?_⟩)))
    rw [show p + 1 + d = p + d + 1 by omega]; exact k2
  · have hn := k2.1
    have hm := k4.1
    obtain ⟨q, rfl⟩ : ∃ q, q' = q + d := ⟨q' - d, by omega⟩
    refine Or.inr (Or.inr (Or.inr (Or.inr (Or.inl ⟨hp.symm.trans k1, q, namS_dn (d := d) (h.sub (by omega) (by omega)) ?_, (h q (by omega) (by omega)).symm.trans k3, numS_dn (d := d) (h.sub (by omega) (by omega)) ?_⟩))))
    · rw [show p + 1 + d = p + d + 1 by omega]; exact k2
    · rw [show q + 1 + d = q + d + 1 by omega]; exact k4
  · refine Or.inr (Or.inr (Or.inr (Or.inr (Or.inr (Or.inl ⟨hp.symm.trans k1, ?_, by omega⟩)))))
    rw [← h (p + 1) (by omega) (by omega), show p + 1 + d = p + d + 1 by omega]
    exact k2
  · exact Or.inr (Or.inr (Or.inr (Or.inr (Or.inr (Or.inr ⟨hp.symm.trans k1, by omega⟩)))))
theorem stepQ_dn {s1 s2 : Nat → Nat → Prop} {p e : Nat} (h : likeAt sr sr' d p e) (hs : ∀ a b, p ≤ a → b ≤ e → s2 (a + d) (b + d) → s1 a b) (k : stepQ sr' s2 (p + d) (e + d)) : stepQ sr s1 p e := by
  rcases k with k | ⟨k1, k2, k3, q', k4, k5, k6⟩
  · exact Or.inl (stepT_dn h hs k)
  · have hl := sgnS_lt k4
    have hm := stepT_lt k6
    obtain ⟨q, rfl⟩ : ∃ q, q' = q + d := ⟨q' - d, by omega⟩
    have h1 : sr' (p + d + 1) = sr (p + 1) := by rw [show p + d + 1 = p + 1 + d by omega]; exact h _ (by omega) (by omega)
    have h2 : sr' (p + d + 2) = sr (p + 2) := by rw [show p + d + 2 = p + 2 + d by omega]; exact h _ (by omega) (by omega)
    refine Or.inr ⟨(h p (by omega) (by omega)).symm.trans k1, by rw [← h1]; exact k2, h2.symm.trans k3, q, sgnS_dn (d := d) (h.sub (by omega) (by omega)) ?_, (h q (by omega) (by omega)).symm.trans k5, stepT_dn (d := d) (h.sub (by omega) (by omega)) (fun a b x y => hs a b (by omega) (by omega)) ?_⟩
    · rw [show p + 3 + d = p + d + 3 by omega]; exact k4
    · rw [show q + 1 + d = q + d + 1 by omega]; exact k6
theorem stsC_dn : ∀ (n p E : Nat), likeAt sr sr' d p E → stsC sr' n (p + d) (E + d) → stsC sr n p E
  | 0, _, _, _, k => absurd k id
  | n + 1, p, E, h, k => by
    obtain ⟨e', k1, k2, k3⟩ := k
    have hl := stepQ_lt k1
    obtain ⟨e, rfl⟩ : ∃ e, e' = e + d := ⟨e' - d, by omega⟩
    have he : e ≤ E := by rcases k3 with k3 | ⟨k3, _⟩ <;> omega
    refine ⟨e, stepQ_dn (d := d) (h.sub (by omega) he) (fun a b x y z => stsC_dn n a b (h.sub (by omega) (by omega)) z) k1, by rw [← h e (by omega) he]; exact k2, ?_⟩
    rcases k3 with k3 | ⟨k3, k4, k5⟩
    · exact Or.inl (by omega)
    · refine Or.inr ⟨by omega, (h e (by omega) he).symm.trans k4, stsC_dn n (e + 1) E (h.sub (by omega) (by omega)) ?_⟩
      rw [show e + 1 + d = e + d + 1 by omega]; exact k5
end DN
theorem pooledP_cl {pool tape : Nat → Int} {p a b i : Nat} (hi : i ≤ b - a) (hab : a ≤ b) : pooledP pool tape p a b (p + i) = clip tape b (a + i) := by
  rw [pooledP_at]
  unfold clip
  by_cases c : i = b - a
  · rw [if_pos (by omega), if_neg (by omega)]
  · rw [if_neg (by omega), if_pos (by omega), if_pos (by omega)]
    congr 1; omega
/-- what was read on the tape lies in the pool then -/
theorem pooledC {pool tape : Nat → Int} {p a b : Nat} (hab : a ≤ b) (h : someC (clip tape b) a b) : someC (pooledP pool tape p a b) p (p + (b - a)) := by
  obtain ⟨n, h⟩ := h
  refine ⟨n, ?_⟩
  by_cases c : a ≤ p
  · have z := stsC_at (sr' := pooledP pool tape p a b) (d := p - a) n a b (fun j h1 h2 => by
      have := pooledP_cl (pool := pool) (tape := tape) (p := p) (a := a) (b := b) (i := j - a) (by omega) hab
      rw [show p + (j - a) = j + (p - a) by omega, show a + (j - a) = j by omega] at this
      exact this) h
    rw [show a + (p - a) = p by omega, show b + (p - a) = p + (b - a) by omega] at z
    exact z
  · refine stsC_dn (sr' := clip tape b) (d := a - p) n p (p + (b - a)) (fun j h1 h2 => ?_) ?_
    · have := pooledP_cl (pool := pool) (tape := tape) (p := p) (a := a) (b := b) (i := j - p) (by omega) hab
      rw [show p + (j - p) = j by omega, show a + (j - p) = j + (a - p) by omega] at this
      exact this.symm
    · rw [show p + (a - p) = a by omega, show p + (b - a) + (a - p) = b by omega]; exact h
theorem pooledT {pool tape : Nat → Int} {p b : Nat} {f : Nat} (h : stsT (clip tape b) f 0 0 b) : stsT (pooledP pool tape p 0 b) f 0 p (p + b) := by
  have z := stsT_at (sr' := pooledP pool tape p 0 b) (d := p) f 0 0 b (fun j h1 h2 => by
    have := pooledP_cl (pool := pool) (tape := tape) (p := p) (a := 0) (b := b) (i := j) (by omega) (by omega)
    rw [Nat.zero_add] at this
    rw [Nat.add_comm]; exact this) h
  rw [Nat.zero_add, Nat.add_comm b p] at z
  exact z
end mg_82

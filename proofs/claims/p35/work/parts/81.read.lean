/-! ===== what was read is a text of steps ===== -/
def clip (sr : Nat → Int) (len : Int) : Nat → Int := fun j => if (j : Int) < len then sr j else 0
section RD
variable {sr : Nat → Int} {len : Int}
theorem here_c {a c : Int} (h0 : 0 ≤ a) (h : hereF sr len a = c) (hc : ¬ c = -1) : clip sr len a.toNat = c := by
  unfold hereF at h; unfold clip
  split at h
  · rw [if_pos (by omega)]; exact h
  · exact absurd h.symm hc
theorem here_n {a c : Int} (h0 : 0 ≤ a) (h : ¬ hereF sr len a = c) (hc : ¬ c = 0) : ¬ clip sr len a.toNat = c := by
  unfold hereF at h; unfold clip
  split at h
  · rw [if_pos (by omega)]; exact h
  · rw [if_neg (by omega)]; omega
theorem here_d {a : Int} (h0 : 0 ≤ a) : (48 ≤ hereF sr len a ∧ hereF sr len a ≤ 57) ↔ dgP (clip sr len a.toNat) := by
  unfold hereF clip dgP
  by_cases c : a < len
  · rw [if_pos c, if_pos (by omega)]
  · rw [if_neg c, if_neg (by omega)]; omega
theorem here_l {a : Int} (h0 : 0 ≤ a) : (97 ≤ hereF sr len a ∧ hereF sr len a ≤ 122) ↔ isLt (clip sr len a.toNat) := by
  unfold hereF clip isLt
  by_cases c : a < len
  · rw [if_pos c, if_pos (by omega)]
  · rw [if_neg c, if_neg (by omega)]; omega
theorem andR_s {r : Bool × PS} {f : PS → Bool × PS} (h : (andR r f).1 = true) : r.1 = true ∧ (f r.2).1 = true ∧ andR r f = f r.2 := by
  by_cases c : r.1 = true
  · rw [andR_t c] at h ⊢; exact ⟨c, h, rfl⟩
  · rw [andR_f c] at h; exact absurd h c
theorem numL_rd : ∀ (n : Nat) (q : PS), 0 ≤ q.1 → q.1 ≤ (numL sr len n q).1 ∧ (numL sr len n q).1 ≤ q.1 + n ∧ (∀ j : Nat, q.1 ≤ j → (j : Int) < (numL sr len n q).1 → dgP (clip sr len j)) ∧ (numL sr len n q).2.2.2.2 = q.2.2.2.2
  | 0, q, h => by unfold numL; exact ⟨Int.le_refl _, by omega, fun j a b => by omega, rfl⟩
  | n + 1, q, h => by
    unfold numL
    split
    · rename_i c
      obtain ⟨a, b, d, e⟩ := numL_rd n (q.1 + 1, q.2.1, 10 * q.2.2.1 + hereF sr len q.1 - 48, q.2.2.2) (by show (0 : Int) ≤ q.1 + 1; omega)
      dsimp only at a b d e
      refine ⟨by omega, by omega, fun j x y => ?_, e⟩
      by_cases z : (j : Int) = q.1
      · have := (here_d h).mp c
        rw [show q.1.toNat = j by omega] at this
        exact this
      · exact d j (by omega) y
    · exact ⟨Int.le_refl _, by omega, fun j a b => by omega, rfl⟩
theorem nR_rd {n : Nat} {l m : Int} {q : PS} (h0 : 0 ≤ q.1) (hn : 1 ≤ n) (h : (nR sr len n l m q).1 = true) : numS (clip sr len) q.1.toNat (nR sr len n l m q).2.1.toNat n ∧ q.1 < (nR sr len n l m q).2.1 ∧ (nR sr len n l m q).2.2.2.2.2 = q.2.2.2.2 := by
  have hb : numberB sr len n l m q := by simpa [nR] using h
  obtain ⟨h1, h2⟩ := hb
  have e : (nR sr len n l m q).2 = numL sr len n (q.1, q.2.1, 0, q.2.2.2) := by
    show numberF sr len n l m q = _
    unfold numberF
    rw [if_pos h1]
    unfold finF
    rw [if_pos h2]
  rw [e]
  obtain ⟨a, b, d, f⟩ := numL_rd (sr := sr) (len := len) n (q.1, q.2.1, 0, q.2.2.2) h0
  dsimp only at a b d f
  have hlt : q.1 < (numL sr len n (q.1, q.2.1, 0, q.2.2.2)).1 := by
    cases n with
    | zero => omega
    | succ n =>
      unfold numL
      rw [if_pos h1]
      obtain ⟨a', -, -, -⟩ := numL_rd (sr := sr) (len := len) n (q.1 + 1, q.2.1, 10 * 0 + hereF sr len q.1 - 48, q.2.2.2) (by show (0 : Int) ≤ q.1 + 1; omega)
      dsimp only at a' ⊢
      omega
  exact ⟨⟨by omega, by omega, fun j x y => d j (by omega) (by omega)⟩, hlt, f⟩
theorem vR_rd {q : PS} (h0 : 0 ≤ q.1) (h : (vR sr len q).1 = true) : sgnS (clip sr len) q.1.toNat (vR sr len q).2.1.toNat ∧ q.1 < (vR sr len q).2.1 ∧ (vR sr len q).2.2.2.2.2 = q.2.2.2.2 := by
  have e : vR sr len q = nR sr len 5 0 99999 (minusF sr len q) := rfl
  rw [e] at h ⊢
  by_cases c : hereF sr len q.1 = 45
  · have em : (minusF sr len q).1 = q.1 + 1 := by unfold minusF; rw [b01_t c]
    have eo : (minusF sr len q).2 = q.2 := rfl
    obtain ⟨a, b, d⟩ := nR_rd (by omega) (by decide) h
    rw [em] at a b
    rw [eo] at d
    refine ⟨Or.inl ⟨here_c h0 c (by decide), ?_⟩, by omega, d⟩
    rw [show q.1.toNat + 1 = (q.1 + 1).toNat by omega]; exact a
  · have em : (minusF sr len q).1 = q.1 := by unfold minusF; rw [b01_f c]; exact Int.add_zero _
    have eo : (minusF sr len q).2 = q.2 := rfl
    obtain ⟨a, b, d⟩ := nR_rd (by omega) (by decide) h
    rw [em] at a b
    rw [eo] at d
    exact ⟨Or.inr a, b, d⟩
theorem nameL_rd : ∀ (n : Nat) (q : PS), 0 ≤ q.1 → q.1 ≤ (nameL sr len n q).1 ∧ (nameL sr len n q).1 ≤ q.1 + n ∧ (∀ j : Nat, q.1 ≤ j → (j : Int) < (nameL sr len n q).1 → isLt (clip sr len j)) ∧ (nameL sr len n q).2 = q.2 ∧ ((nameL sr len n q).1 = q.1 + n ∨ ¬ isLt (clip sr len (nameL sr len n q).1.toNat))
  | 0, q, h => by unfold nameL; exact ⟨Int.le_refl _, by omega, fun j a b => by omega, rfl, Or.inl (by omega)⟩
  | n + 1, q, h => by
    unfold nameL
    split
    · rename_i c
      obtain ⟨a, b, d, e, f⟩ := nameL_rd n (advF q) (by show (0 : Int) ≤ q.1 + 1; omega)
      have e1 : (advF q).1 = q.1 + 1 := rfl
      rw [e1] at a b d f
      refine ⟨by omega, by omega, fun j x y => ?_, e, ?_⟩
      · by_cases z : (j : Int) = q.1
        · have := (here_l h).mp c
          rw [show q.1.toNat = j by omega] at this
          exact this
        · exact d j (by omega) y
      · rcases f with f | f
        · exact Or.inl (by omega)
        · exact Or.inr f
    · rename_i c
      exact ⟨Int.le_refl _, by omega, fun j a b => by omega, rfl, Or.inr (fun z => c ((here_l h).mpr z))⟩
theorem aR_rd {q : PS} (h0 : 0 ≤ q.1) (h : (aR sr len q).1 = true) : namS (clip sr len) q.1.toNat (aR sr len q).2.1.toNat ∧ q.1 < (aR sr len q).2.1 ∧ (aR sr len q).2.2 = q.2 := by
  have hb : nameB sr len q := by simpa [aR] using h
  have e : (aR sr len q).2 = nameL sr len 7 q := by
    show nameF sr len q = _
    unfold nameF
    rw [if_pos hb]
  rw [e]
  obtain ⟨a, b, d, f, g⟩ := nameL_rd (sr := sr) (len := len) 7 q h0
  have hlt : q.1 < (nameL sr len 7 q).1 := by
    obtain ⟨a', -, -, -, -⟩ := nameL_rd (sr := sr) (len := len) 6 (advF q) (by show (0 : Int) ≤ q.1 + 1; omega)
    have e1 : (advF q).1 = q.1 + 1 := rfl
    have e2 : nameL sr len 7 q = nameL sr len 6 (advF q) := by
      show (if 97 ≤ hereF sr len q.1 ∧ hereF sr len q.1 ≤ 122 then nameL sr len 6 (advF q) else q) = _
      rw [if_pos hb]
    rw [e2]
    omega
  exact ⟨⟨by omega, by omega, fun j x y => d j (by omega) (by omega), by rcases g with g | g; exact Or.inl (by omega); exact Or.inr g⟩, hlt, f⟩
theorem gR_rd {c : Int} {q : PS} (h0 : 0 ≤ q.1) (hc : ¬ c = -1) (h : (gR sr len c q).1 = true) : clip sr len q.1.toNat = c ∧ (gR sr len c q).2 = advF q := by
  have hb : hereF sr len q.1 = c := by simpa [gR] using h
  exact ⟨here_c h0 hb hc, by show signF sr len c q = _; unfold signF; rw [if_pos hb]⟩
end RD
/-- steps of some closer -/
def someC (sr : Nat → Int) (p E : Nat) : Prop := ∃ n, stsC sr n p E
theorem stepT_fuel {sr : Nat → Int} {p e : Nat} (h : stepT sr (someC sr) p e) : ∃ n, stepT sr (stsC sr n) p e := by
  rcases h with k | k | ⟨k1, q, k2, k3⟩ | k | k | k | k
  · exact ⟨0, Or.inl k⟩
  · exact ⟨0, Or.inr (Or.inl k)⟩
  · rcases k3 with k3 | ⟨k3, r, ⟨n, k4⟩, k5⟩
    · exact ⟨0, Or.inr (Or.inr (Or.inl ⟨k1, q, k2, Or.inl k3⟩))⟩
    · exact ⟨n, Or.inr (Or.inr (Or.inl ⟨k1, q, k2, Or.inr ⟨k3, r, k4, k5⟩⟩))⟩
  · exact ⟨0, Or.inr (Or.inr (Or.inr (Or.inl k)))⟩
  · exact ⟨0, Or.inr (Or.inr (Or.inr (Or.inr (Or.inl k))))⟩
  · exact ⟨0, Or.inr (Or.inr (Or.inr (Or.inr (Or.inr (Or.inl k)))))⟩
  · exact ⟨0, Or.inr (Or.inr (Or.inr (Or.inr (Or.inr (Or.inr k)))))⟩
theorem stepQ_fuel {sr : Nat → Int} {p e : Nat} (h : stepQ sr (someC sr) p e) : ∃ n, stepQ sr (stsC sr n) p e := by
  rcases h with k | ⟨k1, k2, k3, q, k4, k5, k6⟩
  · obtain ⟨n, k⟩ := stepT_fuel k
    exact ⟨n, Or.inl k⟩
  · obtain ⟨n, k⟩ := stepT_fuel k6
    exact ⟨n, Or.inr ⟨k1, k2, k3, q, k4, k5, k⟩⟩
section RS
variable {sr : Nat → Int} {len : Int}
theorem takeG_rd {steps : PS → Bool × PS} {w : Int} {q : PS} (h0 : 0 ≤ q.1) (ho : 0 ≤ q.2.2.2.2) (hu : ∀ q : PS, 0 ≤ q.1 → 0 ≤ q.2.2.2.2 → (steps q).1 = true → q.1 ≤ (steps q).2.1) (hs : ∀ q : PS, 0 ≤ q.1 → 0 ≤ q.2.2.2.2 → (steps q).1 = true → clip sr len (steps q).2.1.toNat = 125 → q.1 < (steps q).2.1 ∧ (steps q).2.2.2.2.2 = q.2.2.2.2 ∧ someC (clip sr len) q.1.toNat (steps q).2.1.toNat) (h : (takeG sr len steps w q).1 = true) :
    (∃ p : Nat, namS (clip sr len) q.1.toNat p ∧ (((takeG sr len steps w q).2.1.toNat = p ∧ ¬ clip sr len p = 123) ∨ (clip sr len p = 123 ∧ ∃ r : Nat, someC (clip sr len) (p + 1) r ∧ p + 1 ≤ r ∧ clip sr len r = 125 ∧ (takeG sr len steps w q).2.1.toNat = r + 1))) ∧ q.1 < (takeG sr len steps w q).2.1 ∧ (takeG sr len steps w q).2.2.2.2.2 = q.2.2.2.2 := by
  unfold takeG at h ⊢
  obtain ⟨a1, a2, a3⟩ := andR_s h
  rw [a3]
  obtain ⟨b1, b2, b3⟩ := aR_rd h0 a1
  try dsimp only at a2 ⊢
  by_cases c : hereF sr len (aR sr len q).2.1 = 123
  · rw [if_pos c] at a2 ⊢
    by_cases w2 : 2 < w
    · rw [if_pos w2] at a2; cases a2
    · rw [if_neg w2] at a2 ⊢
      obtain ⟨d1, d2, d3⟩ := andR_s a2
      rw [d3]
      have e1 : (advF (aR sr len q).2).1 = (aR sr len q).2.1 + 1 := rfl
      have e2 : (advF (aR sr len q).2).2 = (aR sr len q).2.2 := rfl
      have up : 0 ≤ (advF (aR sr len q).2).1 := by omega
      have upo : 0 ≤ (advF (aR sr len q).2).2.2.2.2 := by rw [e2, b3]; exact ho
      have ps := hu _ up upo d1
      obtain ⟨g1, g2⟩ := gR_rd (by omega) (by decide) d2
      obtain ⟨s1, s2, s3⟩ := hs _ up upo d1 g1
      rw [g2]
      have e3 : (advF (steps (advF (aR sr len q).2)).2).1 = (steps (advF (aR sr len q).2)).2.1 + 1 := rfl
      refine ⟨⟨_, b1, Or.inr ⟨here_c (by omega) c (by decide), (steps (advF (aR sr len q).2)).2.1.toNat, ?_, by omega, g1, by omega⟩⟩, by omega, ?_⟩
      · rw [e1] at s3
        rw [show (aR sr len q).2.1.toNat + 1 = ((aR sr len q).2.1 + 1).toNat by omega]; exact s3
      · show (steps (advF (aR sr len q).2)).2.2.2.2.2 = _
        rw [s2, e2, b3]
  · rw [if_neg c] at a2 ⊢
    exact ⟨⟨_, b1, Or.inl ⟨rfl, here_n (by omega) c (by decide)⟩⟩, b2, by rw [b3]⟩
/-- a step was read: how it lies there -/
def rdS (sr : Nat → Int) (len : Int) (it bh : Bool) (q q' : PS) : Prop := q.1 < q'.1 ∧
  ((it = false ∧ bh = true ∧ q'.2.2.2.2 = q.2.2.2.2 ∧ stepT (clip sr len) (someC (clip sr len)) q.1.toNat q'.1.toNat) ∨
   (bh = false ∧ q'.2.2.2.2 = q.2.2.2.2 ∧ stepQ (clip sr len) (someC (clip sr len)) q.1.toNat q'.1.toNat) ∨
   (it = true ∧ bh = false ∧ clip sr len q.1.toNat = 40 ∧ q'.1 = q.1 + 1 ∧ q'.2.2.2.2 = q.2.2.2.2 + 1) ∨
   (it = true ∧ bh = false ∧ clip sr len q.1.toNat = 41 ∧ q'.1 = q.1 + 1 ∧ 0 < q.2.2.2.2 ∧ q'.2.2.2.2 = q.2.2.2.2 - 1))
theorem stepR_rd {take inner : PS → Bool × PS} {it bh : Bool} {q : PS} (hib : it = true → bh = false) (h0 : 0 ≤ q.1) (ho : 0 ≤ q.2.2.2.2)
    (ht : ∀ q : PS, 0 ≤ q.1 → 0 ≤ q.2.2.2.2 → (take q).1 = true → (∃ p : Nat, namS (clip sr len) q.1.toNat p ∧ (((take q).2.1.toNat = p ∧ ¬ clip sr len p = 123) ∨ (clip sr len p = 123 ∧ ∃ r : Nat, someC (clip sr len) (p + 1) r ∧ p + 1 ≤ r ∧ clip sr len r = 125 ∧ (take q).2.1.toNat = r + 1))) ∧ q.1 < (take q).2.1 ∧ (take q).2.2.2.2.2 = q.2.2.2.2)
    (hi : bh = false → ∀ q : PS, 0 ≤ q.1 → 0 ≤ q.2.2.2.2 → (inner q).1 = true → q.1 < (inner q).2.1 ∧ (inner q).2.2.2.2.2 = q.2.2.2.2 ∧ stepT (clip sr len) (someC (clip sr len)) q.1.toNat (inner q).2.1.toNat)
    (h : (stepR sr len take inner it bh q).1 = true) : rdS sr len it bh q (stepR sr len take inner it bh q).2 := by
  unfold stepR at h ⊢
  by_cases so : stepOk (hereF sr len q.1) it bh q
  · rw [if_pos so] at h ⊢
    have e1 : (advF q).1 = q.1 + 1 := rfl
    have e2 : (advF q).2 = q.2 := rfl
    have a0 : 0 ≤ (advF q).1 := by omega
    have en : (advF q).1.toNat = q.1.toNat + 1 := by omega
    have eo : (advF q).2.2.2.2 = q.2.2.2.2 := rfl
    have pack : ∀ q' : PS, q.1 < q'.1 → q'.2.2.2.2 = q.2.2.2.2 → stepT (clip sr len) (someC (clip sr len)) q.1.toNat q'.1.toNat → rdS sr len it bh q q' := fun q' x y z => ⟨x, by
      cases hb : bh with
      | false => exact Or.inr (Or.inl ⟨rfl, y, Or.inl z⟩)
      | true =>
        cases hit : it with
        | false => exact Or.inl ⟨rfl, rfl, y, z⟩
        | true => rw [hib hit] at hb; cases hb⟩
    unfold stepG at h ⊢
    by_cases c1 : hereF sr len q.1 = 43
    · rw [if_pos c1] at h ⊢
      obtain ⟨u1, u2, u3⟩ := andR_s h
      obtain ⟨v1, v2, v3⟩ := andR_s u1
      rw [u3]
      rw [v3] at u2 ⊢
      obtain ⟨n1, n2, n3⟩ := nR_rd a0 (by decide) v1
      obtain ⟨g1, g2⟩ := gR_rd (by omega) (by decide) v2
      rw [g2] at u2 ⊢
      have e3 : (advF (nR sr len 1 0 7 (advF q)).2).1 = (nR sr len 1 0 7 (advF q)).2.1 + 1 := rfl
      have e4 : (advF (nR sr len 1 0 7 (advF q)).2).2.2.2.2 = (nR sr len 1 0 7 (advF q)).2.2.2.2.2 := rfl
      obtain ⟨w1, w2, w3⟩ := vR_rd (by omega) u2
      obtain ⟨m1, m2, m3⟩ := n1
      have ep : (nR sr len 1 0 7 (advF q)).2.1.toNat = q.1.toNat + 2 := by omega
      have dg := m3 (q.1.toNat + 1) (by omega) (by omega)
      have d7 : clip sr len (q.1.toNat + 1) ≤ 55 := by
        have hb : numberB sr len 1 0 7 (advF q) := by simpa [nR] using v1
        obtain ⟨hb1, -, hb3⟩ := hb
        have e5 : (numL sr len 1 ((advF q).1, (advF q).2.1, 0, (advF q).2.2.2)).2.2.1 = 10 * 0 + hereF sr len (advF q).1 - 48 := by
          unfold numL
          rw [if_pos hb1]
          unfold numL
          rfl
        rw [e5] at hb3
        have := here_c a0 (rfl : hereF sr len (advF q).1 = _) (by omega)
        rw [en] at this
        omega
      refine pack _ (by omega) (by omega) (Or.inl ⟨here_c h0 c1 (by decide), ⟨by unfold dgP at dg; omega, d7⟩, by rw [← ep]; exact g1, ?_⟩)
      rw [e3, show ((nR sr len 1 0 7 (advF q)).2.1 + 1).toNat = q.1.toNat + 3 by omega] at w1
      exact w1
    · rw [if_neg c1] at h ⊢
      by_cases c2 : hereF sr len q.1 = 33
      · rw [if_pos c2] at h ⊢
        obtain ⟨n1, n2, n3⟩ := nR_rd a0 (by decide) h
        exact pack _ (by omega) (by omega) (Or.inr (Or.inl ⟨here_c h0 c2 (by decide), by rw [← en]; exact n1⟩))
      · rw [if_neg c2] at h ⊢
        by_cases c3 : hereF sr len q.1 = 97
        · rw [if_pos c3] at h ⊢
          obtain ⟨⟨p, t1, t2⟩, t3, t4⟩ := ht _ a0 (by omega) h
          refine pack _ (by omega) (by omega) (Or.inr (Or.inr (Or.inl ⟨here_c h0 c3 (by decide), p, by rw [← en]; exact t1, ?_⟩)))
          exact t2
        · rw [if_neg c3] at h ⊢
          by_cases c4 : hereF sr len q.1 = 120
          · rw [if_pos c4] at h ⊢
            obtain ⟨n1, n2, n3⟩ := aR_rd a0 h
            exact pack _ (by omega) (by rw [n3]; rfl) (Or.inr (Or.inr (Or.inr (Or.inl ⟨here_c h0 c4 (by decide), by rw [← en]; exact n1⟩))))
          · rw [if_neg c4] at h ⊢
            by_cases c5 : hereF sr len q.1 = 109
            · rw [if_pos c5] at h ⊢
              obtain ⟨u1, u2, u3⟩ := andR_s h
              obtain ⟨v1, v2, v3⟩ := andR_s u1
              rw [u3]
              rw [v3] at u2 ⊢
              obtain ⟨n1, n2, n3⟩ := aR_rd a0 v1
              obtain ⟨g1, g2⟩ := gR_rd (by omega) (by decide) v2
              rw [g2] at u2 ⊢
              have e3 : (advF (aR sr len (advF q)).2).1 = (aR sr len (advF q)).2.1 + 1 := rfl
              have e4 : (advF (aR sr len (advF q)).2).2 = (aR sr len (advF q)).2.2 := rfl
              obtain ⟨w1, w2, w3⟩ := nR_rd (by omega) (by decide) u2
              refine pack _ (by omega) (by rw [w3, e4, n3]; rfl) (Or.inr (Or.inr (Or.inr (Or.inr (Or.inl ⟨here_c h0 c5 (by decide), (aR sr len (advF q)).2.1.toNat, by rw [← en]; exact n1, g1, ?_⟩)))))
              rw [e3, show ((aR sr len (advF q)).2.1 + 1).toNat = (aR sr len (advF q)).2.1.toNat + 1 by omega] at w1
              exact w1
            · rw [if_neg c5] at h ⊢
              by_cases c6 : hereF sr len q.1 = 107
              · rw [if_pos c6] at h ⊢
                obtain ⟨⟨m1, m2, m3⟩, n2, n3⟩ := nR_rd a0 (by decide) h
                have dg := m3 (q.1.toNat + 1) (by omega) (by omega)
                exact pack _ (by omega) (by omega) (Or.inr (Or.inr (Or.inr (Or.inr (Or.inr (Or.inl ⟨here_c h0 c6 (by decide), dg, by omega⟩))))))
              · rw [if_neg c6] at h ⊢
                by_cases c7 : hereF sr len q.1 = 63
                · rw [if_pos c7] at h ⊢
                  have bh0 : bh = false := by
                    rcases so with z | z | z | z | z | z | z | z | z
                    all_goals first | (exfalso; omega) | exact z.2 | (exfalso; have := z.1; omega)
                  obtain ⟨u1, u2, u3⟩ := andR_s h
                  obtain ⟨v1, v2, v3⟩ := andR_s u1
                  obtain ⟨x1, x2, x3⟩ := andR_s v1
                  obtain ⟨y1, y2, y3⟩ := andR_s x1
                  rw [u3]
                  rw [v3] at u2 ⊢
                  rw [x3] at v2 u2 ⊢
                  rw [y3] at x2 v2 u2 ⊢
                  obtain ⟨n1, n2, n3⟩ := nR_rd a0 (by decide) y1
                  obtain ⟨g1, g2⟩ := gR_rd (by omega) (by decide) y2
                  rw [g2] at x2 v2 u2 ⊢
                  have e3 : (advF (nR sr len 1 0 7 (advF q)).2).1 = (nR sr len 1 0 7 (advF q)).2.1 + 1 := rfl
                  have e4 : (advF (nR sr len 1 0 7 (advF q)).2).2.2.2.2 = (nR sr len 1 0 7 (advF q)).2.2.2.2.2 := rfl
                  obtain ⟨w1, w2, w3⟩ := vR_rd (by omega) x2
                  obtain ⟨k1, k2⟩ := gR_rd (by omega) (by decide) v2
                  rw [k2] at u2 ⊢
                  have e5 : (advF (vR sr len (advF (nR sr len 1 0 7 (advF q)).2)).2).1 = (vR sr len (advF (nR sr len 1 0 7 (advF q)).2)).2.1 + 1 := rfl
                  have e6 : (advF (vR sr len (advF (nR sr len 1 0 7 (advF q)).2)).2).2.2.2.2 = (vR sr len (advF (nR sr len 1 0 7 (advF q)).2)).2.2.2.2.2 := rfl
                  obtain ⟨i1, i2, i3⟩ := hi bh0 _ (by omega) (by omega) u2
                  obtain ⟨m1, m2, m3⟩ := n1
                  have ep : (nR sr len 1 0 7 (advF q)).2.1.toNat = q.1.toNat + 2 := by omega
                  have dg := m3 (q.1.toNat + 1) (by omega) (by omega)
                  have d7 : clip sr len (q.1.toNat + 1) ≤ 55 := by
                    have hb : numberB sr len 1 0 7 (advF q) := by simpa [nR] using y1
                    obtain ⟨hb1, -, hb3⟩ := hb
                    have e5 : (numL sr len 1 ((advF q).1, (advF q).2.1, 0, (advF q).2.2.2)).2.2.1 = 10 * 0 + hereF sr len (advF q).1 - 48 := by
                      unfold numL
                      rw [if_pos hb1]
                      unfold numL
                      rfl
                    rw [e5] at hb3
                    have := here_c a0 (rfl : hereF sr len (advF q).1 = _) (by omega)
                    rw [en] at this
                    omega
                  refine ⟨by omega, Or.inr (Or.inl ⟨bh0, by omega, Or.inr ⟨here_c h0 c7 (by decide), ⟨by unfold dgP at dg; omega, d7⟩, by rw [← ep]; exact g1, (vR sr len (advF (nR sr len 1 0 7 (advF q)).2)).2.1.toNat, ?_, k1, ?_⟩⟩)⟩
                  · rw [e3, show ((nR sr len 1 0 7 (advF q)).2.1 + 1).toNat = q.1.toNat + 3 by omega] at w1
                    exact w1
                  · rw [e5, show ((vR sr len (advF (nR sr len 1 0 7 (advF q)).2)).2.1 + 1).toNat = (vR sr len (advF (nR sr len 1 0 7 (advF q)).2)).2.1.toNat + 1 by omega] at i3
                    exact i3
                · rw [if_neg c7] at h ⊢
                  have f1 : (openF (hereF sr len q.1) (advF q)).1 = q.1 + 1 := rfl
                  have f2 : (openF (hereF sr len q.1) (advF q)).2.2.2.2 = q.2.2.2.2 + (if hereF sr len q.1 = 40 then 1 else if hereF sr len q.1 = 41 then -1 else 0) := rfl
                  rcases so with z | z | z | z | z | z | z | z | ⟨z | z, hit⟩
                  · exact absurd z c1
                  · exact absurd z c2
                  · exact absurd z c3
                  · exact absurd z c4
                  · exact absurd z c5
                  · exact absurd z c6
                  · refine pack _ (by dsimp only; omega) ?_ (Or.inr (Or.inr (Or.inr (Or.inr (Or.inr (Or.inr ⟨here_c h0 z (by decide), by dsimp only; omega⟩))))))
                    dsimp only
                    rw [f2, if_neg (by omega), if_neg (by omega)]; omega
                  · exact absurd z.1 c7
                  · refine ⟨by dsimp only; omega, Or.inr (Or.inr (Or.inl ⟨hit, hib hit, here_c h0 z (by decide), f1, ?_⟩))⟩
                    dsimp only
                    rw [f2, if_pos z]
                  · refine ⟨by dsimp only; omega, Or.inr (Or.inr (Or.inr ⟨hit, hib hit, here_c h0 z.1 (by decide), f1, z.2, ?_⟩))⟩
                    dsimp only
                    rw [f2, if_neg (by omega), if_pos z.1]; omega
  · rw [if_neg so] at h; cases h
/-- rows of steps that were read -/
theorem stepsL_rd {st : PS → Bool × PS} {it : Bool} (hst : ∀ q : PS, 0 ≤ q.1 → 0 ≤ q.2.2.2.2 → (st q).1 = true → rdS sr len it false q (st q).2) : ∀ (k : Nat) (n : Int) (r : Bool × PS) (q : PS), 0 ≤ q.1 → 0 ≤ q.2.2.2.2 → r.1 = true → rdS sr len it false q r.2 → (stepsL sr len st k n r).1.1 = true → endC (clip sr len (stepsL sr len st k n r).1.2.1.toNat) → 
    q.1 < (stepsL sr len st k n r).1.2.1 ∧ 0 ≤ (stepsL sr len st k n r).1.2.2.2.2.2 ∧ (∃ f, stsT (clip sr len) f q.2.2.2.2.toNat q.1.toNat (stepsL sr len st k n r).1.2.1.toNat) ∧ (it = false → (stepsL sr len st k n r).1.2.2.2.2.2 = q.2.2.2.2 ∧ someC (clip sr len) q.1.toNat (stepsL sr len st k n r).1.2.1.toNat)
  | k, n, r, q, h0, ho, hr, hq, h, he => by
    have ro : 0 ≤ r.2.2.2.2.2 := by
      obtain ⟨-, z | z | z | z⟩ := hq
      · omega
      · omega
      · omega
      · omega
    have stop : endC (clip sr len r.2.1.toNat) → ((stepsL sr len st k n r).1.2.1 = r.2.1) → ((stepsL sr len st k n r).1.2.2.2.2.2 = r.2.2.2.2.2) → q.1 < (stepsL sr len st k n r).1.2.1 ∧ 0 ≤ (stepsL sr len st k n r).1.2.2.2.2.2 ∧ (∃ f, stsT (clip sr len) f q.2.2.2.2.toNat q.1.toNat (stepsL sr len st k n r).1.2.1.toNat) ∧ (it = false → (stepsL sr len st k n r).1.2.2.2.2.2 = q.2.2.2.2 ∧ someC (clip sr len) q.1.toNat (stepsL sr len st k n r).1.2.1.toNat) := by
      intro hE ep eo
      rw [ep, eo]
      obtain ⟨lt, z⟩ := hq
      refine ⟨lt, ro, ?_, fun hit => ?_⟩
      · rcases z with z | ⟨-, z1, z2⟩ | ⟨-, -, z1, z2, z3⟩ | ⟨-, -, z1, z2, z3, z4⟩
        · exact absurd z.2.1 (by decide)
        · obtain ⟨f, z2⟩ := stepQ_fuel z2
          exact ⟨f + 1, r.2.1.toNat, q.2.2.2.2.toNat, Or.inl ⟨z2, rfl⟩, hE, Or.inl rfl⟩
        · exact ⟨1, r.2.1.toNat, q.2.2.2.2.toNat + 1, Or.inr (Or.inl ⟨z1, by omega, rfl⟩), hE, Or.inl rfl⟩
        · exact ⟨1, r.2.1.toNat, q.2.2.2.2.toNat - 1, Or.inr (Or.inr ⟨z1, by omega, by omega⟩), hE, Or.inl rfl⟩
      · rcases z with z | ⟨-, z1, z2⟩ | ⟨z0, -⟩ | ⟨z0, -⟩
        · exact absurd z.2.1 (by decide)
        · obtain ⟨f, z2⟩ := stepQ_fuel z2
          exact ⟨z1, f + 1, r.2.1.toNat, z2, hE, Or.inl rfl⟩
        · rw [hit] at z0; cases z0
        · rw [hit] at z0; cases z0
    cases k with
    | zero => exact stop he rfl rfl
    | succ k =>
      by_cases c : r.1 = true ∧ hereF sr len r.2.1 = 59
      · have e : stepsL sr len st (k + 1) n r = stepsL sr len st k (n + 1) (st (advF r.2)) := by
          show (if r.1 = true ∧ hereF sr len r.2.1 = 59 then stepsL sr len st k (n + 1) (st (advF r.2)) else (r, n)) = _
          rw [if_pos c]
        rw [e] at h he ⊢
        have lt := hq.1
        have e1 : (advF r.2).1 = r.2.1 + 1 := rfl
        have e2 : (advF r.2).2.2.2.2 = r.2.2.2.2.2 := rfl
        have s1 : (st (advF r.2)).1 = true := by
          cases hs : (st (advF r.2)).1 with
          | true => rfl
          | false =>
            exfalso
            have q1 : ∀ k n, stepsL sr len st k n (st (advF r.2)) = (st (advF r.2), n) := by
              intro k n
              cases k with
              | zero => rfl
              | succ k =>
                show (if (st (advF r.2)).1 = true ∧ hereF sr len (st (advF r.2)).2.1 = 59 then stepsL sr len st k (n + 1) (st (advF (st (advF r.2)).2)) else (st (advF r.2), n)) = _
                rw [if_neg (by rw [hs]; exact fun z => absurd z.1 (by decide))]
            rw [q1] at h
            rw [hs] at h; cases h
        obtain ⟨i1, i2, ⟨f, i3⟩, i4⟩ := stepsL_rd hst k (n + 1) (st (advF r.2)) (advF r.2) (by omega) (by omega) s1 (hst _ (by omega) (by omega) s1) h he
        have semi := here_c (by omega) c.2 (by decide)
        obtain ⟨-, z⟩ := hq
        rw [e1] at i1 i3
        rw [e2] at i3
        have en : (r.2.1 + 1).toNat = r.2.1.toNat + 1 := by omega
        rw [en] at i3
        refine ⟨by omega, i2, ?_, fun hit => ?_⟩
        · rcases z with z | ⟨-, z1, z2⟩ | ⟨-, -, z1, z2, z3⟩ | ⟨-, -, z1, z2, z3, z4⟩
          · exact absurd z.2.1 (by decide)
          · obtain ⟨g, z2⟩ := stepQ_fuel z2
            refine ⟨(f + g) + 1, r.2.1.toNat, q.2.2.2.2.toNat, Or.inl ⟨stepQ_mono (fun a b => stsC_mono g (f + g) (by omega) a b) z2, rfl⟩, Or.inl semi, Or.inr ⟨by omega, semi, ?_⟩⟩
            rw [z1] at i3
            exact stsT_mono f (f + g) (by omega) _ _ _ i3
          · refine ⟨f + 1, r.2.1.toNat, q.2.2.2.2.toNat + 1, Or.inr (Or.inl ⟨z1, by omega, rfl⟩), Or.inl semi, Or.inr ⟨by omega, semi, ?_⟩⟩
            rw [z3, show (q.2.2.2.2 + 1).toNat = q.2.2.2.2.toNat + 1 by omega] at i3
            exact i3
          · refine ⟨f + 1, r.2.1.toNat, q.2.2.2.2.toNat - 1, Or.inr (Or.inr ⟨z1, by omega, by omega⟩), Or.inl semi, Or.inr ⟨by omega, semi, ?_⟩⟩
            rw [z4, show (q.2.2.2.2 - 1).toNat = q.2.2.2.2.toNat - 1 by omega] at i3
            exact i3
        · obtain ⟨i5, g, i6⟩ := i4 hit
          rw [e1, en] at i6
          rcases z with z | ⟨-, z1, z2⟩ | ⟨z0, -⟩ | ⟨z0, -⟩
          · exact absurd z.2.1 (by decide)
          · obtain ⟨g2, z2⟩ := stepQ_fuel z2
            refine ⟨by omega, (g + g2) + 1, r.2.1.toNat, stepQ_mono (fun a b => stsC_mono g2 (g + g2) (by omega) a b) z2, Or.inl semi, Or.inr ⟨by omega, semi, stsC_mono g (g + g2) (by omega) _ _ i6⟩⟩
          · rw [hit] at z0; cases z0
          · rw [hit] at z0; cases z0
      · have e : stepsL sr len st (k + 1) n r = (r, n) := by
          show (if r.1 = true ∧ hereF sr len r.2.1 = 59 then stepsL sr len st k (n + 1) (st (advF r.2)) else (r, n)) = _
          rw [if_neg c]
        rw [e] at he
        exact stop he (by rw [e]) (by rw [e])
theorem stepsR_rd {st : PS → Bool × PS} {it : Bool} (hst : ∀ q : PS, 0 ≤ q.1 → 0 ≤ q.2.2.2.2 → (st q).1 = true → rdS sr len it false q (st q).2) {q : PS} (h0 : 0 ≤ q.1) (ho : 0 ≤ q.2.2.2.2) (h : (stepsR sr len st q).1 = true) (he : endC (clip sr len (stepsR sr len st q).2.1.toNat)) :
    q.1 < (stepsR sr len st q).2.1 ∧ 0 ≤ (stepsR sr len st q).2.2.2.2.2 ∧ (∃ f, stsT (clip sr len) f q.2.2.2.2.toNat q.1.toNat (stepsR sr len st q).2.1.toNat) ∧ (it = false → (stepsR sr len st q).2.2.2.2.2 = q.2.2.2.2 ∧ someC (clip sr len) q.1.toNat (stepsR sr len st q).2.1.toNat) := by
  have s1 : (st q).1 = true := by
    cases hs : (st q).1 with
    | true => rfl
    | false =>
      exfalso
      have e : stepsR sr len st q = setN (st q, 1) := by
        unfold stepsR
        congr 1
        show (if (st q).1 = true ∧ hereF sr len (st q).2.1 = 59 then _ else (st q, 1)) = _
        rw [if_neg (by rw [hs]; exact fun z => absurd z.1 (by decide))]
      rw [e] at h
      have : (setN (st q, 1)).1 = (st q).1 := rfl
      rw [this, hs] at h; cases h
  exact stepsL_rd hst (len.toNat + 1) 1 (st q) q h0 ho s1 (hst q h0 ho s1) h he
theorem stepsL_up {st : PS → Bool × PS} {it : Bool} (hst : ∀ q : PS, 0 ≤ q.1 → 0 ≤ q.2.2.2.2 → (st q).1 = true → rdS sr len it false q (st q).2) : ∀ (k : Nat) (n : Int) (r : Bool × PS), 0 ≤ r.2.1 → 0 ≤ r.2.2.2.2.2 → (stepsL sr len st k n r).1.1 = true → r.2.1 ≤ (stepsL sr len st k n r).1.2.1
  | 0, n, r, h0, ho, h => Int.le_refl _
  | k + 1, n, r, h0, ho, h => by
    by_cases c : r.1 = true ∧ hereF sr len r.2.1 = 59
    · have e : stepsL sr len st (k + 1) n r = stepsL sr len st k (n + 1) (st (advF r.2)) := by
        show (if r.1 = true ∧ hereF sr len r.2.1 = 59 then stepsL sr len st k (n + 1) (st (advF r.2)) else (r, n)) = _
        rw [if_pos c]
      rw [e] at h ⊢
      have e1 : (advF r.2).1 = r.2.1 + 1 := rfl
      have e2 : (advF r.2).2.2.2.2 = r.2.2.2.2.2 := rfl
      cases hs : (st (advF r.2)).1 with
      | true =>
        have z := hst _ (by omega) (by omega) hs
        have z1 := z.1
        have zo : 0 ≤ (st (advF r.2)).2.2.2.2.2 := by
          obtain ⟨-, z | z | z | z⟩ := z <;> omega
        have := stepsL_up hst k (n + 1) (st (advF r.2)) (by omega) zo h
        omega
      | false =>
        exfalso
        have q1 : stepsL sr len st k (n + 1) (st (advF r.2)) = (st (advF r.2), n + 1) := by
          cases k with
          | zero => rfl
          | succ k =>
            show (if (st (advF r.2)).1 = true ∧ hereF sr len (st (advF r.2)).2.1 = 59 then stepsL sr len st k (n + 1 + 1) (st (advF (st (advF r.2)).2)) else (st (advF r.2), n + 1)) = _
            rw [if_neg (by rw [hs]; exact fun z => absurd z.1 (by decide))]
        rw [q1] at h
        rw [hs] at h; cases h
    · have e : stepsL sr len st (k + 1) n r = (r, n) := by
        show (if r.1 = true ∧ hereF sr len r.2.1 = 59 then stepsL sr len st k (n + 1) (st (advF r.2)) else (r, n)) = _
        rw [if_neg c]
      rw [e]; exact Int.le_refl _
theorem stepN_rd : ∀ (n : Nat) (w : Int) (it bh : Bool) (q : PS), (it = true → bh = false) → 0 ≤ q.1 → 0 ≤ q.2.2.2.2 → (stepN sr len n w it bh q).1 = true → rdS sr len it bh q (stepN sr len n w it bh q).2
  | 0, w, it, bh, q, _, _, _, h => by cases h
  | n + 1, w, it, bh, q, hib, h0, ho, h => by
    have hst : ∀ q : PS, 0 ≤ q.1 → 0 ≤ q.2.2.2.2 → (stepN sr len n (w + 1) false false q).1 = true → rdS sr len false false q (stepN sr len n (w + 1) false false q).2 := fun q a b c => stepN_rd n (w + 1) false false q (fun _ => rfl) a b c
    refine stepR_rd hib h0 ho (fun q' g go h' => takeG_rd g go (fun q2 a b c => ?_) (fun q2 a b c d => ?_) h') (fun hb q' g go h' => ?_) h
    · cases hs : (stepN sr len n (w + 1) false false q2).1 with
      | true =>
        have z := hst q2 a b hs
        have z1 := z.1
        have zo : 0 ≤ (stepN sr len n (w + 1) false false q2).2.2.2.2.2 := by
          obtain ⟨-, z | z | z | z⟩ := z <;> omega
        have := stepsL_up hst (len.toNat + 1) 1 (stepN sr len n (w + 1) false false q2) (by omega) zo c
        have e : (stepsR sr len (stepN sr len n (w + 1) false false) q2).2.1 = (stepsL sr len (stepN sr len n (w + 1) false false) (len.toNat + 1) 1 (stepN sr len n (w + 1) false false q2)).1.2.1 := rfl
        omega
      | false =>
        exfalso
        have e : stepsR sr len (stepN sr len n (w + 1) false false) q2 = setN (stepN sr len n (w + 1) false false q2, 1) := by
          unfold stepsR
          congr 1
          show (if (stepN sr len n (w + 1) false false q2).1 = true ∧ hereF sr len (stepN sr len n (w + 1) false false q2).2.1 = 59 then _ else (stepN sr len n (w + 1) false false q2, 1)) = _
          rw [if_neg (by rw [hs]; exact fun z => absurd z.1 (by decide))]
        rw [e] at c
        have : (setN (stepN sr len n (w + 1) false false q2, 1)).1 = (stepN sr len n (w + 1) false false q2).1 := rfl
        rw [this, hs] at c; cases c
    · obtain ⟨i1, i2, i3, i4⟩ := stepsR_rd hst a b c (by rw [d]; exact Or.inr (Or.inl rfl))
      exact ⟨i1, (i4 rfl).1, (i4 rfl).2⟩
    · obtain ⟨z1, z⟩ := stepN_rd n w false true q' (fun z => by cases z) g go h'
      rcases z with z | z | z | z
      · exact ⟨z1, z.2.2.1, z.2.2.2⟩
      · exact absurd z.1 (by decide)
      · exact absurd z.1 (by decide)
      · exact absurd z.1 (by decide)
end RS
/-- a whole text that was read, of a closer -/
theorem readC {sr : Nat → Int} {len : Int} {q : PS} (h0 : 0 ≤ q.1) (ho : q.2.2.2.2 = 0) (h : (wR len (stepsW sr len 1 false q)).1 = true) : someC (clip sr len) q.1.toNat len.toNat ∧ q.1 < len := by
  by_cases c : (stepsW sr len 1 false q).1 = true
  · have e : wR len (stepsW sr len 1 false q) = wholeR len (stepsW sr len 1 false q).2 := by unfold wR; rw [if_pos c]
    rw [e] at h
    unfold wholeR at h
    split at h
    · rename_i g
      have he : clip sr len (stepsW sr len 1 false q).2.1.toNat = 0 := by unfold clip; rw [if_neg (by omega)]
      obtain ⟨i1, i2, i3, i4⟩ := stepsR_rd (fun q a b c => stepN_rd 8 1 false false q (fun _ => rfl) a b c) h0 (by omega) c (by rw [show (stepsR sr len (stepN sr len 8 1 false false) q).2.1 = (stepsW sr len 1 false q).2.1 from rfl, he]; exact Or.inr (Or.inr rfl))
      have z := (i4 rfl).2
      rw [show (stepsR sr len (stepN sr len 8 1 false false) q).2.1 = (stepsW sr len 1 false q).2.1 from rfl, g.1] at z i1
      exact ⟨z, i1⟩
    · cases h
  · have e : wR len (stepsW sr len 1 false q) = stepsW sr len 1 false q := by unfold wR; rw [if_neg c]
    rw [e] at h; exact absurd h c
/-- .. of a task -/
theorem readT {sr : Nat → Int} {len : Int} {q : PS} (h0 : 0 ≤ q.1) (ho : q.2.2.2.2 = 0) (h : (wR len (stepsW sr len 0 true q)).1 = true) : (∃ f, stsT (clip sr len) f 0 q.1.toNat len.toNat) ∧ q.1 < len := by
  by_cases c : (stepsW sr len 0 true q).1 = true
  · have e : wR len (stepsW sr len 0 true q) = wholeR len (stepsW sr len 0 true q).2 := by unfold wR; rw [if_pos c]
    rw [e] at h
    unfold wholeR at h
    split at h
    · rename_i g
      have he : clip sr len (stepsW sr len 0 true q).2.1.toNat = 0 := by unfold clip; rw [if_neg (by omega)]
      obtain ⟨i1, i2, i3, i4⟩ := stepsR_rd (fun q a b c => stepN_rd 8 0 true false q (fun _ => rfl) a b c) h0 (by omega) c (by rw [show (stepsR sr len (stepN sr len 8 0 true false) q).2.1 = (stepsW sr len 0 true q).2.1 from rfl, he]; exact Or.inr (Or.inr rfl))
      rw [show (stepsR sr len (stepN sr len 8 0 true false) q).2.1 = (stepsW sr len 0 true q).2.1 from rfl, g.1] at i3 i1
      rw [ho] at i3
      exact ⟨i3, i1⟩
    · cases h
  · have e : wR len (stepsW sr len 0 true q) = stepsW sr len 0 true q := by unfold wR; rw [if_neg c]
    rw [e] at h; exact absurd h c

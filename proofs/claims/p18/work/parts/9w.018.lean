section mg_9z
section CHG3
variable {x : Int} {m pool c : Nat → Int} {S : Nat → Option mO} {C : Nat → Nat → Int} {nm : Nat → Int64} {g : Nat → Option Nat}
end CHG3
end mg_9z
section mg_a0
/-! ===== what both sides answer while they work ===== -/
theorem lN_inj {a b : Nat} (ha : a < 2 ^ 63) (hb : b < 2 ^ 63) (h : lN a = lN b) : a = b := by
  have := congrArg Int64.toInt h
  rw [pf_lI ha, pf_lI hb] at this
  omega
theorem nmG_v {sr : Nat → Int} {p e j : Nat} (h : ∀ j, p ≤ j → j < e → isLt (sr j)) : (nmG sr p e j = 0 ↔ e ≤ p + j) ∧ (p + j < e → ((nmG sr p e j : Nat) : Int) = sr (p + j) - 96) := by
  unfold nmG
  by_cases c : p + j < e
  · have := h (p + j) (by omega) c
    unfold isLt at this
    rw [if_pos c]
    constructor
    · constructor <;> intro <;> omega
    · intro; omega
  · rw [if_neg c]
    exact ⟨⟨fun _ => by omega, fun _ => rfl⟩, fun g => absurd g c⟩
/-- names are the same as longs just when they are the same -/
theorem nmY_eq {sr sr' : Nat → Int} {p e p' e' : Nat} (h : ∀ j, p ≤ j → j < e → isLt (sr j)) (h' : ∀ j, p' ≤ j → j < e' → isLt (sr' j)) (l : p ≤ e ∧ e ≤ p + 7) (l' : p' ≤ e' ∧ e' ≤ p' + 7) : nmY sr p e = nmY sr' p' e' ↔ e - p = e' - p' ∧ ∀ j, j < e - p → sr (p + j) = sr' (p' + j) := by
  constructor
  · intro k
    have k1 := lN_inj (by have := nmN_b h; omega) (by have := nmN_b h'; omega) k
    have k2 := cdN_i (nmG_b h) (nmG_b h') 7 k1
    have len : e - p = e' - p' := by
      by_cases a : e - p < e' - p'
      · exfalso
        have g1 := (nmG_v (j := e - p) h).1.mpr (by omega)
        have g2 := (nmG_v (j := e - p) h').1
        rw [k2 (e - p) (by omega)] at g1
        have := g2.mp g1
        omega
      · by_cases b : e' - p' < e - p
        · exfalso
          have g1 := (nmG_v (j := e' - p') h').1.mpr (by omega)
          have g2 := (nmG_v (j := e' - p') h).1
          rw [← k2 (e' - p') (by omega)] at g1
          have := g2.mp g1
          omega
        · omega
    refine ⟨len, fun j hj => ?_⟩
    have g1 := (nmG_v (j := j) h).2 (by omega)
    have g2 := (nmG_v (j := j) h').2 (by omega)
    rw [k2 j (by omega)] at g1
    omega
  · rintro ⟨k1, k2⟩
    unfold nmY nmN
    have e1 : cdN (nmG sr p e) 7 = cdN (nmG sr' p' e') 7 := cdN_c 7 (fun j _ => by
      unfold nmG
      by_cases c : p + j < e
      · rw [if_pos c, if_pos (by omega), k2 j (by omega)]
      · rw [if_neg c, if_neg (by omega)])
    rw [e1]
theorem nmL_iff {m rc : Nat → Int} {t fr : Nat} : ∀ n k, nmL m rc t fr n k = true ↔ ∀ j, k ≤ j → j < k + n → m (265 + 14 * t + (j - fr)) = rc j
  | 0, k => by unfold nmL; exact ⟨fun _ j a b => by omega, fun _ => rfl⟩
  | n + 1, k => by
    unfold nmL
    by_cases c : m (265 + 14 * t + (k - fr)) = rc k
    · rw [if_pos c, nmL_iff n (k + 1)]
      constructor
      · intro h j a b
        by_cases e : j = k
        · subst e; exact c
        · exact h j (by omega) (by omega)
      · intro h j a b
        exact h j (by omega) (by omega)
    · rw [if_neg c]
      constructor
      · intro h; exact absurd h (by decide)
      · intro h; exact absurd (h k (by omega) (by omega)) c
theorem namedB_iff {m rc : Nat → Int} {t fr to : Nat} (hk : nmOk m t) (hl : ∀ j, fr ≤ j → j < to → isLt (rc j)) (l : fr ≤ to ∧ to ≤ fr + 7) : namedB m rc t fr to = true ↔ nmR m t = nmY rc fr to := by
  obtain ⟨⟨n1, n2⟩, n3⟩ := hk
  have key := nmY_eq (sr := m) (sr' := rc) (p := 265 + 14 * t) (e := 265 + 14 * t + (m (261 + 14 * t)).toNat) (p' := fr) (e' := to) (fun j a b => by
    have := n3 (j - (265 + 14 * t)) (by omega)
    rw [show 265 + 14 * t + (j - (265 + 14 * t)) = j by omega] at this
    exact this) hl ⟨by omega, by omega⟩ l
  unfold nmR
  rw [key]
  unfold namedB
  rw [Bool.and_eq_true, decide_eq_true_eq, nmL_iff]
  constructor
  · rintro ⟨a, b⟩
    refine ⟨by omega, fun j hj => ?_⟩
    have := b (fr + j) (by omega) (by omega)
    rw [show fr + j - fr = j by omega] at this
    exact this
  · rintro ⟨a, b⟩
    refine ⟨by omega, fun j x y => ?_⟩
    have := b (j - fr) (by omega)
    rw [show fr + (j - fr) = j by omega] at this
    exact this
/-- the held one of a name -/
theorem hb_hn {m c rc : Nat → Int} {nm : Nat → Int64} {fr to : Nat} (hT : crT m c nm) (hst : ∀ t : Nat, (t : Int) < m 1 → 0 ≤ m (258 + 14 * t) ∧ m (258 + 14 * t) ≤ 2) (hl : ∀ j, fr ≤ j → j < to → isLt (rc j)) (l : fr ≤ to ∧ to ≤ fr + 7) : ∀ n t : Nat, ((t + n : Nat) : Int) ≤ m 1 → hbL m rc fr to n t = hnL c nm (nmY rc fr to) n t
  | 0, t, _ => rfl
  | n + 1, t, h => by
    obtain ⟨t1, -, -, t4, t5⟩ := hT t (by omega)
    have a1 : heldB m t = true ↔ c (32 + 3 * t) = 0 := by
      rw [t1, swT_0 (hst t (by omega))]
      unfold heldB
      exact decide_eq_true_iff
    have a2 : namedB m rc t fr to = true ↔ nm t = nmY rc fr to := by rw [t4]; exact namedB_iff t5 hl l
    unfold hbL hnL
    by_cases k : heldB m t = true ∧ namedB m rc t fr to = true
    · rw [if_pos k, if_pos ⟨a1.mp k.1, a2.mp k.2⟩]
    · rw [if_neg k, if_neg (fun g => k ⟨a1.mpr g.1, a2.mpr g.2⟩)]
      exact hb_hn hT hst hl l n (t + 1) (by omega)
/-! open scopes, ready tasks -/
theorem op_iff {m c : Nat → Int} (hN : c 1 = m 0) (h60 : m 0 ≤ 60) (hS : crS m c) (hst : ∀ a : Nat, (a : Int) < m 0 → 0 ≤ m (18 + 4 * a) ∧ m (18 + 4 * a) ≤ 2) {i : Int} : opP c i ↔ openP m i := by
  unfold opP openP inW
  rw [hN]
  constructor
  · rintro ⟨⟨a, b, d⟩, e⟩
    obtain ⟨s1, -⟩ := hS i.toNat (by omega)
    rw [s1, swT_0 (hst _ (by omega))] at e
    exact ⟨a, by omega, by rw [show (18 + 4 * i).toNat = 18 + 4 * i.toNat by omega]; exact e⟩
  · rintro ⟨a, b, d⟩
    obtain ⟨s1, -⟩ := hS i.toNat (by omega)
    rw [show (18 + 4 * i).toNat = 18 + 4 * i.toNat by omega] at d
    exact ⟨⟨a, by omega, by omega⟩, by rw [s1, swT_0 (hst _ (by omega))]; exact d⟩
theorem rk_iff {m c : Nat → Int} (hN : c 2 = m 3) (h10 : m 3 ≤ 10) (hK : crK m c) {i : Int} (h0 : 0 ≤ i) : (inW c 2 10 i ∧ c (489 + 9 * i.toNat) = 0) ↔ (i ≤ m 3 - 1 ∧ m (1610 + 72 * i).toNat = 0) := by
  unfold inW
  rw [hN]
  constructor
  · rintro ⟨⟨a, b, d⟩, e⟩
    obtain ⟨s1, -⟩ := hK i.toNat (by omega)
    rw [s1] at e
    exact ⟨by omega, by rw [show (1610 + 72 * i).toNat = 1610 + 72 * i.toNat by omega]; exact e⟩
  · rintro ⟨b, d⟩
    obtain ⟨s1, -⟩ := hK i.toNat (by omega)
    rw [show (1610 + 72 * i).toNat = 1610 + 72 * i.toNat by omega] at d
    exact ⟨⟨h0, by omega, by omega⟩, by rw [s1]; exact d⟩
/-! numbers -/
theorem naL_in {sr : Nat → Int} : ∀ (k k' p e : Nat) (v : Int), e ≤ p + k → e ≤ p + k' → p ≤ e → (∀ j, p ≤ j → j < e → dgP (sr j)) → ¬ dgP (sr e) → naL sr k p v = naL sr k' p v
  | 0, 0, _, _, _, _, _, _, _, _ => rfl
  | 0, k' + 1, p, e, v, h1, h2, h3, h4, h5 => by
    have : e = p := by omega
    subst this
    unfold naL
    rw [if_neg h5]
  | k + 1, 0, p, e, v, h1, h2, h3, h4, h5 => by
    have : e = p := by omega
    subst this
    unfold naL
    rw [if_neg h5]
  | k + 1, k' + 1, p, e, v, h1, h2, h3, h4, h5 => by
    unfold naL
    by_cases c : 48 ≤ sr p ∧ sr p ≤ 57
    · rw [if_pos c, if_pos c]
      have : p < e := by
        by_cases q : p = e
        · subst q; exact absurd c h5
        · omega
      exact naL_in k k' (p + 1) e _ (by omega) (by omega) (by omega) (fun j a b => h4 j (by omega) b) h5
    · rw [if_neg c, if_neg c]
theorem stops_len {sr : Nat → Int} : ∀ (n p e : Nat), p ≤ e → (∀ j, p ≤ j → j < e → dgP (sr j)) → stopsBy sr n p → e ≤ p + n
  | 0, p, e, h, hd, hs => by
    by_cases q : p = e
    · omega
    · exfalso; exact hs (hd p (Nat.le_refl _) (by omega))
  | n + 1, p, e, h, hd, hs => by
    by_cases q : p = e
    · omega
    · have := stops_len n (p + 1) e (by omega) (fun j a b => hd j (by omega) b) (hs (hd p (Nat.le_refl _) (by omega)))
      omega
theorem num_v {sr : Nat → Int} {p e k n : Nat} (h : numS sr p e k) (he : ¬ dgP (sr e)) (hd : digR sr p n) : numAt sr n p = naL sr k p 0 := by
  obtain ⟨a, b, c⟩ := h
  have d0 := c p (Nat.le_refl _) a
  have n45 : ¬ sr p = 45 := fun g => by unfold dgP at d0; omega
  obtain ⟨d1, d2⟩ := hd
  rw [if_neg n45] at d2
  have := stops_len n p e (by omega) c d2
  unfold numAt
  rw [if_neg n45]
  exact naL_in (n + 1) k p e 0 (by omega) b (by omega) c he
theorem sgn_v {sr : Nat → Int} {p e n : Nat} (h : sgnS sr p e) (he : ¬ dgP (sr e)) (hd : digR sr p n) : numAt sr n p = sgV sr p := by
  unfold sgV
  rcases h with ⟨h0, a, b, c⟩ | h
  · obtain ⟨d1, d2⟩ := hd
    rw [if_pos h0] at d2
    have := stops_len n (p + 1) e (by omega) c d2
    unfold numAt
    rw [if_pos h0, if_pos h0]
    rw [naL_in (n + 1) 5 (p + 1) e 0 (by omega) b (by omega) c he]
  · have d0 := h.2.2 p (Nat.le_refl _) h.1
    have n45 : ¬ sr p = 45 := fun g => by unfold dgP at d0; omega
    rw [if_neg n45]
    exact num_v h he hd
/-! the last entry that stands -/
def canP (m : Nat → Int) (s e : Int) : Prop := (∃ t : Nat, e = t ∧ (t : Int) < m 1 ∧ m (258 + 14 * t) = 0 ∧ m (259 + 14 * t) = s) ∨ (∃ a : Nat, e = 100 + (a : Int) ∧ 1 ≤ a ∧ (a : Int) < m 0 ∧ m (18 + 4 * a) = 0 ∧ m (19 + 4 * a) = s)
end mg_a0

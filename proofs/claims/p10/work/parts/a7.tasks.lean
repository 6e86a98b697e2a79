/-! ===== the tasks of both sides ===== -/
def tkA (m pool c : Nat → Int) (S : Nat → Option mO) (g : Nat → Option Nat) (q : Nat) : Prop :=
  c (488 + 9 * q) = m (1615 + 72 * q) ∧ c (490 + 9 * q) = m (1609 + 72 * q) ∧ c (491 + 9 * q) = m (1612 + 72 * q) ∧ c (492 + 9 * q) = m (1613 + 72 * q) ∧ c (493 + 9 * q) = m (1608 + 72 * q) ∧ c (495 + 9 * q) = m (1618 + 72 * q) ∧
  ∃ b hi n P E : Nat, m (1616 + 72 * q) = P ∧ m (1617 + 72 * q) = E ∧ g (180 + 2 * q) = some b ∧ stL S pool n true 0 b hi P E
/-- where a task goes on -/
def rsT (pool : Nat → Int) (S : Nat → Option mO) (v : Option Nat) (o p E : Nat) : Prop := (E ≤ p ∧ v = none) ∨ (p < E ∧ ∃ b hi n : Nat, v = some b ∧ stL S pool n true o b hi p E)
def tkC (m pool c : Nat → Int) (S : Nat → Option mO) (g : Nat → Option Nat) (q : Nat) : Prop :=
  m (1610 + 72 * q) = 0 → m (1618 + 72 * q) = 0 ∧ ∃ o p E : Nat, m (1619 + 72 * q) = (o : Int) + 1 ∧ m (1617 + 72 * q) = E ∧ m (1611 + 72 * q) = p ∧ c (494 + 9 * q) = m (1620 + 72 * q + o) ∧ rsT pool S (g (181 + 2 * q)) o p E
def TKR (m pool c : Nat → Int) (S : Nat → Option mO) (g : Nat → Option Nat) (t0 : Nat) : Prop := c 3 = m 7 ∧ ∀ q : Nat, (q : Int) < m 3 → tkA m pool c S g q ∧ (¬ q = t0 → tkC m pool c S g q)
section TKs
variable {m m' pool c c' : Nat → Int} {S : Nat → Option mO} {g g' : Nat → Option Nat} {t0 : Nat}
theorem tkA_c {q : Nat} (h : tkA m pool c S g q) (hm : ∀ k, 1608 + 72 * q ≤ k → k < 1619 + 72 * q → ¬ k = 1614 + 72 * q → ¬ k = 1610 + 72 * q → ¬ k = 1611 + 72 * q → m' k = m k) (hc : ∀ k, 488 + 9 * q ≤ k → k < 496 + 9 * q → ¬ k = 494 + 9 * q → ¬ k = 489 + 9 * q → c' k = c k) (hg : g' (180 + 2 * q) = g (180 + 2 * q)) : tkA m' pool c' S g' q := by
  obtain ⟨a1, a2, a3, a4, a5, a6, b, hi, n, P, E, e1, e2, e3, e4⟩ := h
  refine ⟨?_, ?_, ?_, ?_, ?_, ?_, b, hi, n, P, E, ?_, ?_, ?_, e4⟩
  · rw [hc _ (by omega) (by omega) (by omega) (by omega), hm _ (by omega) (by omega) (by omega) (by omega) (by omega)]; exact a1
  · rw [hc _ (by omega) (by omega) (by omega) (by omega), hm _ (by omega) (by omega) (by omega) (by omega) (by omega)]; exact a2
  · rw [hc _ (by omega) (by omega) (by omega) (by omega), hm _ (by omega) (by omega) (by omega) (by omega) (by omega)]; exact a3
  · rw [hc _ (by omega) (by omega) (by omega) (by omega), hm _ (by omega) (by omega) (by omega) (by omega) (by omega)]; exact a4
  · rw [hc _ (by omega) (by omega) (by omega) (by omega), hm _ (by omega) (by omega) (by omega) (by omega) (by omega)]; exact a5
  · rw [hc _ (by omega) (by omega) (by omega) (by omega), hm _ (by omega) (by omega) (by omega) (by omega) (by omega)]; exact a6
  · rw [hm _ (by omega) (by omega) (by omega) (by omega) (by omega)]; exact e1
  · rw [hm _ (by omega) (by omega) (by omega) (by omega) (by omega)]; exact e2
  · rw [hg]; exact e3
theorem tkC_c {q : Nat} (h : tkC m pool c S g q) (hm : ∀ k, 1608 + 72 * q ≤ k → k < 1680 + 72 * q → ¬ k = 1614 + 72 * q → m' k = m k) (hO : ∃ n : Nat, m (1619 + 72 * q) = n ∧ n ≤ 60) (hc : c' (494 + 9 * q) = c (494 + 9 * q)) (hg : g' (181 + 2 * q) = g (181 + 2 * q)) : tkC m' pool c' S g' q := by
  intro z
  rw [hm _ (by omega) (by omega) (by omega)] at z
  obtain ⟨z0, o, p, E, e1, e2, e3, e4, e5⟩ := h z
  obtain ⟨n, n1, n2⟩ := hO
  refine ⟨by rw [hm _ (by omega) (by omega) (by omega)]; exact z0, o, p, E, ?_, ?_, ?_, ?_, ?_⟩
  · rw [hm _ (by omega) (by omega) (by omega)]; exact e1
  · rw [hm _ (by omega) (by omega) (by omega)]; exact e2
  · rw [hm _ (by omega) (by omega) (by omega)]; exact e3
  · rw [hc, hm _ (by omega) (by omega) (by omega)]; exact e4
  · rw [hg]; exact e5
/-- closings and shuttings touch no task -/
theorem TKR.kp (h : TKR m pool c S g t0) (k3 : m 3 ≤ 10) (hn : ∀ q : Nat, (q : Int) < m 3 → ∃ n : Nat, m (1619 + 72 * q) = n ∧ n ≤ 60) (k : KPk c c' g g') (h3 : m' 3 = m 3) (h7 : m' 7 = m 7) (hm : ∀ q, 1608 ≤ q → q < 2328 → (∀ t : Nat, q ≠ 1614 + 72 * t) → m' q = m q) : TKR m' pool c' S g' t0 := by
  obtain ⟨a, b⟩ := h
  obtain ⟨k1, k2, k30, k4⟩ := k
  refine ⟨by rw [k30, h7]; exact a, fun q hq => ?_⟩
  rw [h3] at hq
  obtain ⟨b1, b2⟩ := b q hq
  exact ⟨tkA_c b1 (fun j x y z _ _ => hm j (by omega) (by omega) (fun t w => by omega)) (fun j x y z _ => k2 j (by omega) (fun t w => by omega)) (k1 _ (by omega)), fun z => tkC_c (b2 z) (fun j x y w => hm j (by omega) (by omega) (fun t w => by omega)) (hn q hq) (k2 _ (by omega) (fun t w => by omega)) (k1 _ (by omega))⟩
end TKs
/-! which task has the next turn -/
theorem ah_tr {m : Nat → Int} {a b c : Nat} (h : aheadP m a b) (k : aheadP m b c) : aheadP m a c := by unfold aheadP at h k ⊢; omega
theorem ah_to {m : Nat → Int} {a b : Nat} (h : ¬ a = b) (k : ¬ aheadP m a b) : aheadP m b a := by unfold aheadP at k ⊢; omega
theorem nx_a {m : Nat → Int} : ∀ (n t a : Nat), a < t → ∃ w : Nat, nxL m n t (a : Int) = w ∧ (w = a ∨ (t ≤ w ∧ w < t + n ∧ readyB m w = true ∧ aheadP m w a)) ∧ ∀ u, t ≤ u → u < t + n → readyB m u = true → u = w ∨ aheadP m w u
  | 0, t, a, h => ⟨a, rfl, Or.inl rfl, fun u x y => by omega⟩
  | n + 1, t, a, h => by
    unfold nxL
    by_cases c : readyB m t = true ∧ ((a : Int) < 0 ∨ aheadP m t ((a : Int)).toNat)
    · rw [if_pos c]
      have c2 : aheadP m t a := by
        rcases c.2 with x | x
        · omega
        · rw [show ((a : Int)).toNat = a by omega] at x; exact x
      obtain ⟨w, e, w1, w2⟩ := nx_a (m := m) n (t + 1) t (by omega)
      refine ⟨w, e, Or.inr ?_, fun u x y z => ?_⟩
      · rcases w1 with rfl | ⟨w3, w4, w5, w6⟩
        · exact ⟨by omega, by omega, c.1, c2⟩
        · exact ⟨by omega, by omega, w5, ah_tr w6 c2⟩
      · by_cases q : u = t
        · subst q
          rcases w1 with rfl | ⟨w3, w4, w5, w6⟩
          · exact Or.inl rfl
          · exact Or.inr w6
        · exact w2 u (by omega) (by omega) z
    · rw [if_neg c]
      obtain ⟨w, e, w1, w2⟩ := nx_a (m := m) n (t + 1) a (by omega)
      refine ⟨w, e, ?_, fun u x y z => ?_⟩
      · rcases w1 with rfl | ⟨w3, w4, w5, w6⟩
        · exact Or.inl rfl
        · exact Or.inr ⟨by omega, by omega, w5, w6⟩
      · by_cases q : u = t
        · subst q
          have c2 : ¬ aheadP m u a := fun g => c ⟨z, Or.inr (by rw [show ((a : Int)).toNat = a by omega]; exact g)⟩
          have c3 := ah_to (by omega) c2
          rcases w1 with rfl | ⟨w3, w4, w5, w6⟩
          · exact Or.inr c3
          · exact Or.inr (ah_tr w6 c3)
        · exact w2 u (by omega) (by omega) z
theorem nx_n {m : Nat → Int} : ∀ (n t : Nat), (nxL m n t (-5) = -5 ∧ ∀ u, t ≤ u → u < t + n → ¬ readyB m u = true) ∨ ∃ w : Nat, nxL m n t (-5) = w ∧ (t ≤ w ∧ w < t + n ∧ readyB m w = true) ∧ ∀ u, t ≤ u → u < t + n → readyB m u = true → u = w ∨ aheadP m w u
  | 0, t => Or.inl ⟨rfl, fun u x y => by omega⟩
  | n + 1, t => by
    unfold nxL
    by_cases c : readyB m t = true
    · rw [if_pos ⟨c, Or.inl (by decide)⟩]
      obtain ⟨w, e, w1, w2⟩ := nx_a (m := m) n (t + 1) t (by omega)
      refine Or.inr ⟨w, e, ?_, fun u x y z => ?_⟩
      · rcases w1 with rfl | ⟨w3, w4, w5, w6⟩
        · exact ⟨by omega, by omega, c⟩
        · exact ⟨by omega, by omega, w5⟩
      · by_cases q : u = t
        · subst q
          rcases w1 with rfl | ⟨w3, w4, w5, w6⟩
          · exact Or.inl rfl
          · exact Or.inr w6
        · exact w2 u (by omega) (by omega) z
    · rw [if_neg (fun g => c g.1)]
      rcases nx_n (m := m) n (t + 1) with ⟨e, w⟩ | ⟨w, e, w1, w2⟩
      · refine Or.inl ⟨e, fun u x y => ?_⟩
        by_cases q : u = t
        · subst q; exact c
        · exact w u (by omega) (by omega)
      · refine Or.inr ⟨w, e, ⟨by omega, by omega, w1.2.2⟩, fun u x y z => ?_⟩
        by_cases q : u = t
        · subst q; exact absurd z c
        · exact w2 u (by omega) (by omega) z
theorem cnt_one {p : Nat → Bool} {w : Nat} (h : p w = true) : ∀ n, w < n → 1 ≤ cnt p n
  | 0, k => absurd k (Nat.not_lt_zero _)
  | n + 1, k => by
    rw [cnt_S]
    by_cases c : w = n
    · subst c
      have := cnt_r p w
      rw [if_pos h]; omega
    · have := cnt_one h n (by omega)
      split <;> omega
theorem rp_n {c : Nat → Int} {K : Nat} : ∀ n t : Nat, (∀ u, t ≤ u → u < t + n → ¬ c (489 + 9 * u) = 0) → rpL c K 0 n t = -5
  | 0, t, _ => rfl
  | n + 1, t, h => by
    unfold rpL
    rw [if_neg (fun g => h t (Nat.le_refl _) (by omega) g.1)]
    exact rp_n n (t + 1) (fun u x y => h u (by omega) (by omega))
theorem rp_w {c : Nat → Int} {K w : Nat} (h1 : c (489 + 9 * w) = 0) (h2 : cnt (raB c w) K = 0) (h3 : ∀ u, u < K → ¬ u = w → c (489 + 9 * u) = 0 → 1 ≤ cnt (raB c u) K) : ∀ n t : Nat, t ≤ w → w < t + n → t + n ≤ K → rpL c K 0 n t = w
  | 0, t, x, y, _ => by omega
  | n + 1, t, x, y, z => by
    unfold rpL
    by_cases q : t = w
    · subst q
      rw [if_pos ⟨h1, h2⟩]
    · rw [if_neg (fun g => by have := h3 t (by omega) q g.1; omega)]
      exact rp_w h1 h2 h3 n (t + 1) (by omega) (by omega) (by omega)
theorem next_eq {m pool c : Nat → Int} {S : Nat → Option mO} {g : Nat → Option Nat} (hK : crK m c) (hT : TKR m pool c S g 99) {K : Nat} (h3 : m 3 = (K : Int)) (h10 : K ≤ 10) : rpL c K 0 K 0 = nextV m := by
  have rd : ∀ u, u < K → (readyB m u = true ↔ c (489 + 9 * u) = 0) := fun u hu => by
    rw [(hK u (by omega)).1]; unfold readyB; exact decide_eq_true_iff
  have ra : ∀ a u, a < K → u < K → (raB c a u = true ↔ (c (489 + 9 * u) = 0 ∧ aheadP m u a)) := fun a u ha hu => by
    obtain ⟨⟨-, p1, -, l1, -⟩, -⟩ := hT.2 a (by omega)
    obtain ⟨⟨-, p2, -, l2, -⟩, -⟩ := hT.2 u (by omega)
    unfold raB caP
    rw [decide_eq_true_iff, p1, p2, l1, l2]
    refine and_congr Iff.rfl ?_
    unfold aheadP
    constructor <;> intro g <;> omega
  unfold nextV
  rw [h3, show ((K : Int)).toNat = K by omega]
  rcases nx_n (m := m) K 0 with ⟨e, w⟩ | ⟨w, e, ⟨-, w1, w2⟩, w3⟩
  · rw [e]; exact rp_n K 0 (fun u x y z => w u x y ((rd u (by omega)).mpr z))
  · rw [e]
    refine rp_w ((rd w (by omega)).mp w2) (cnt_zero K (fun j hj => ?_)) (fun u hu hu2 hu3 => ?_) K 0 (by omega) w1 (by omega)
    · rw [← Bool.not_eq_true]
      intro g
      have g := (ra w j (by omega) hj).mp g
      rcases w3 j (by omega) (by omega) ((rd j hj).mpr g.1) with z | z
      · subst z; have := g.2; unfold aheadP at this; omega
      · have z2 := g.2; unfold aheadP at z z2; omega
    · have z := w3 u (by omega) (by omega) ((rd u hu).mpr hu3)
      refine cnt_one (w := w) ((ra u w hu (by omega)).mpr ⟨(rd w (by omega)).mp w2, ?_⟩) K (by omega)
      rcases z with z | z
      · exact absurd z hu2
      · exact z
/-! how many faults a task has -/
theorem flt_cnt {m c : Nat → Int} {C : Nat → Nat → Int} {x : Int} {F : Nat} (h : crF m c C x F) (q : Nat) : ∀ n, n ≤ F → cnt (faultB m q) (cnt (faB (C 5)) n).toNat = cnt (gbB 0 (C 5) q) n
  | 0, _ => rfl
  | n + 1, hn => by
    have ih := flt_cnt h q n (by omega)
    have r := cnt_r (faB (C 5)) n
    rw [cnt_S, cnt_S (p := gbB 0 (C 5) q), ← ih]
    by_cases c0 : 0 ≤ C 5 n
    · obtain ⟨e, -⟩ := h.2.2.2.2.1 n (by omega) c0
      rw [if_pos (show faB (C 5) n = true from decide_eq_true c0), show (cnt (faB (C 5)) n + 1).toNat = (cnt (faB (C 5)) n).toNat + 1 by omega, cnt_S]
      have e2 : faultB m q (cnt (faB (C 5)) n).toNat = gbB 0 (C 5) q n := by
        unfold faultB gbB
        rw [e]
        by_cases z : C 5 n = (q : Int)
        · rw [decide_eq_true z, decide_eq_true (p := 0 ≤ n ∧ C 5 n = (q : Int)) ⟨Nat.zero_le _, z⟩]
        · rw [decide_eq_false z, decide_eq_false (p := 0 ≤ n ∧ C 5 n = (q : Int)) (fun g => z g.2)]
      rw [e2]
    · rw [if_neg (show ¬ faB (C 5) n = true from fun g => c0 (of_decide_eq_true g)), if_neg (show ¬ gbB 0 (C 5) q n = true from fun g => c0 (by have := (of_decide_eq_true g).2; omega)), Int.add_zero, Int.add_zero]
/-! whether its scopes are open, it isn't asked to cancel -/
theorem fine_l {m : Nat → Int} {t : Int} : ∀ (n k : Nat) (b : Bool), fineL m t n k b = true ↔ b = true ∧ ∀ j : Nat, k ≤ j → j < k + n → openP m (m (1620 + 72 * t + j).toNat)
  | 0, k, b => ⟨fun g => ⟨g, fun j x y => by omega⟩, fun g => g.1⟩
  | n + 1, k, b => by
    unfold fineL
    rw [fine_l n (k + 1), Bool.and_eq_true, decide_eq_true_iff]
    constructor
    · rintro ⟨⟨a, b⟩, d⟩
      refine ⟨a, fun j x y => ?_⟩
      by_cases e : j = k
      · subst e; exact b
      · exact d j (by omega) (by omega)
    · rintro ⟨a, d⟩
      exact ⟨⟨a, d k (Nat.le_refl _) (by omega)⟩, fun j x y => d j (by omega) (by omega)⟩
theorem chain_op {m : Nat → Int} (hs : ScI m) (hns : NS m) (h60 : m 0 ≤ 60) {t o : Nat} (hk : stkOk m t (o + 1)) (h : m (18 + 4 * (m (1620 + 72 * t + o)).toNat) = 0) : ∀ i j : Nat, j + i = o → m (18 + 4 * (m (1620 + 72 * t + j)).toNat) = 0
  | 0, j, e => by rw [show j = o by omega]; exact h
  | i + 1, j, e => by
    have ih := chain_op hs hns h60 hk h i (j + 1) (by omega)
    obtain ⟨-, k1, k2⟩ := hk
    have a := k1 (j + 1) (by omega)
    have a0 := k1 j (by omega)
    have b := k2 j (by omega)
    obtain ⟨-, x⟩ := hs.2.2 (m (1620 + 72 * t + (j + 1))).toNat (by omega)
    obtain ⟨-, -, y⟩ := x (by omega)
    rw [b] at y
    have z := y (by rw [ih]; decide)
    have r := (hs.2.2 (m (1620 + 72 * t + j)).toNat (by omega)).1
    have w := hns (m (1620 + 72 * t + j)).toNat (by omega)
    omega
theorem fine_iff {m : Nat → Int} (hs : ScI m) (hns : NS m) (h60 : m 0 ≤ 60) {t o u : Nat} (hn : m (1619 + 72 * t) = (o : Int) + 1) (hk : stkOk m t (o + 1)) (hu : m (1620 + 72 * t + o) = u) : fineV m (t : Int) = true ↔ m (1614 + 72 * t) = 0 ∧ m (18 + 4 * u) = 0 := by
  unfold fineV
  rw [fine_l, decide_eq_true_iff, show (1614 + 72 * (t : Int)).toNat = 1614 + 72 * t by omega, show (1619 + 72 * (t : Int)).toNat = 1619 + 72 * t by omega, hn, show ((o : Int) + 1).toNat = o + 1 by omega]
  refine and_congr Iff.rfl ?_
  have ej : ∀ j : Nat, (1620 + 72 * (t : Int) + (j : Int)).toNat = 1620 + 72 * t + j := fun j => by omega
  constructor
  · intro g
    have x := g o (by omega) (by omega)
    rw [ej, hu] at x
    exact (openP_nat.mp x).2
  · intro g j _ hj
    rw [ej]
    have c := chain_op hs hns h60 hk (by rw [hu, show ((u : Int)).toNat = u by omega]; exact g) (o - j) j (by omega)
    have a := hk.2.1 j (by omega)
    rw [show m (1620 + 72 * t + j) = (((m (1620 + 72 * t + j)).toNat : Nat) : Int) by omega]
    exact openP_nat.mpr ⟨by omega, c⟩

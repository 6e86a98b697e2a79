/-! ===== what is so of every row that stands between two calls ===== -/
section M3
variable {m m' pool : Nat → Int}
/-- closed and held together are all -/
theorem cnt_both {p q : Nat → Bool} : ∀ n : Nat, (∀ j, j < n → (p j = true ∧ q j = false) ∨ (p j = false ∧ q j = true)) → cnt p n + cnt q n = n
  | 0, _ => rfl
  | n + 1, h => by
    have ih := cnt_both n (fun j hj => h j (by omega))
    rw [cnt_S, cnt_S]
    rcases h n (by omega) with ⟨a, b⟩ | ⟨a, b⟩
    · rw [a, b]; simp only [if_true, Bool.false_eq_true, if_false]; omega
    · rw [a, b]; simp only [if_true, Bool.false_eq_true, if_false]; omega
theorem held_all {B : Int} (hI : Inv m pool B) (hn : NC m) : m 2 + cnt (heldB m) (m 1).toNat = m 1 := by
  have h1 := hI.1.2.2.1
  have h2 := hI.2.2.2.1.1
  have := cnt_both (p := clsB m) (q := heldB m) (m 1).toNat (fun j hj => by
    have s := (hI.2.2.1 j (by omega)).1
    have z := hn j (by omega)
    by_cases c : m (258 + 14 * j) = 0
    · exact Or.inr ⟨decide_eq_false (by omega), decide_eq_true c⟩
    · exact Or.inl ⟨decide_eq_true (by omega), decide_eq_false c⟩)
  omega
/-- the way up comes to the first scope -/
theorem up_root (h : ScI m) : ∀ (n k : Nat), k ≤ n → (k : Int) < m 0 → upK m 0 n k = 0
  | 0, k, h1, _ => by
    obtain rfl : k = 0 := by omega
    rfl
  | n + 1, k, h1, h2 => by
    unfold upK
    by_cases c : k = 0
    · subst c; rw [if_neg (fun z => z.2 rfl)]; rfl
    · rw [if_pos ⟨by omega, by omega⟩]
      obtain ⟨⟨p1, p2⟩, -⟩ := (h.2.2 k h2).2 (by omega)
      obtain ⟨p, hp⟩ : ∃ p : Nat, m (19 + 4 * k) = p := ⟨(m (19 + 4 * k)).toNat, by omega⟩
      rw [show ((19 : Int) + 4 * (k : Int)).toNat = 19 + 4 * k by omega, hp]
      exact up_root h n p (by omega) (by omega)
/-- where a scope holds no open one, the way up to it begins at itself -/
theorem up_self (h : ScI m) (hn : NS m) {s : Nat} (hs : ∀ c : Nat, 1 ≤ c → (c : Int) < m 0 → m (18 + 4 * c) = 0 → ¬ m (19 + 4 * c) = s) : ∀ (n k : Nat), (k : Int) < m 0 → ¬ m (18 + 4 * k) = 2 → upK m s n k = s → k = s
  | 0, k, _, _, e => by
    have e2 : (k : Int) = s := e
    omega
  | n + 1, k, h1, h2, e => by
    by_cases c : k = s
    · exact c
    · exfalso
      unfold upK at e
      rw [if_pos ⟨by omega, by omega⟩, show ((19 : Int) + 4 * (k : Int)).toNat = 19 + 4 * k by omega] at e
      by_cases k0 : k = 0
      · subst k0
        rw [show 19 + 4 * 0 = 19 from rfl, h.1] at e
        have e2 : upK m s n (-5) = -5 := by cases n <;> rfl
        rw [e2] at e
        omega
      · obtain ⟨r, q⟩ := h.2.2 k h1
        obtain ⟨⟨p1, p2⟩, -, p3⟩ := q (by omega)
        obtain ⟨p, hp⟩ : ∃ p : Nat, m (19 + 4 * k) = p := ⟨(m (19 + 4 * k)).toNat, by omega⟩
        have p4 := p3 h2
        rw [hp] at e p4
        rw [show ((p : Int)).toNat = p by omega] at p4
        have ps := up_self h hn hs n p (by omega) p4 e
        exact hs k (by omega) h1 (by have := hn k h1; omega) (by rw [hp, ps])
theorem held_root {B : Int} (hI : Inv m pool B) (h : ScI m) {t : Nat} (ht : (t : Int) < m 1) : heldInB m (m 0).toNat 0 t = heldB m t := by
  have o := (hI.2.2.1 t ht).2.1
  obtain ⟨a, ha⟩ : ∃ a : Nat, m (259 + 14 * t) = a := ⟨(m (259 + 14 * t)).toNat, by omega⟩
  unfold heldInB belowB
  rw [ha, up_root h (m 0).toNat a (by omega) (by omega), decide_eq_true rfl, Bool.and_true]
theorem held_root_n {B : Int} (hI : Inv m pool B) (h : ScI m) : cnt (heldInB m (m 0).toNat 0) (m 1).toNat = cnt (heldB m) (m 1).toNat :=
  cnt_congr _ (fun t ht => held_root hI h (by have := hI.1.2.2.1; omega))
/-- a shut scope holds nothing -/
theorem held_none (h : ScI m) (hn : NS m) (hj : JI m) {s : Nat} (h1 : ∀ t : Nat, (t : Int) < m 1 → m (258 + 14 * t) = 0 → ¬ m (259 + 14 * t) = s) (hs : ∀ c : Nat, 1 ≤ c → (c : Int) < m 0 → m (18 + 4 * c) = 0 → ¬ m (19 + 4 * c) = s) : cnt (heldInB m (m 0).toNat s) (m 1).toNat = 0 := by
  refine cnt_zero _ (fun t ht => ?_)
  cases e : heldInB m (m 0).toNat s t with
  | false => rfl
  | true =>
    exfalso
    unfold heldInB belowB at e
    rw [Bool.and_eq_true] at e
    have e0 : m (258 + 14 * t) = 0 := of_decide_eq_true e.1
    have b1 := hj.1.2.1
    obtain ⟨a, ha, ha2, ha3⟩ := hj.2.2.1 t (by omega) (by omega)
    have e2 := of_decide_eq_true e.2
    rw [ha] at e2
    exact h1 t (by omega) e0 (by rw [ha, up_self h hn hs _ _ ha2 ha3 e2])
/-- the task that is next is the first of those that are ready -/
theorem nx_best : ∀ (n t : Nat) (f : Int), ((f = -5 ∧ ∀ j, j < t → readyB m j = false) ∨ ∃ q : Nat, f = q ∧ q < t ∧ readyB m q = true ∧ ∀ j, j < t → readyB m j = true → ¬ j = q → aheadP m q j) → ((nxL m n t f = -5 ∧ ∀ j, j < t + n → readyB m j = false) ∨ ∃ q : Nat, nxL m n t f = q ∧ q < t + n ∧ readyB m q = true ∧ ∀ j, j < t + n → readyB m j = true → ¬ j = q → aheadP m q j)
  | 0, t, f, h => h
  | n + 1, t, f, h => by
    unfold nxL
    rw [show t + (n + 1) = t + 1 + n by omega]
    refine nx_best n (t + 1) _ ?_
    by_cases c : readyB m t = true ∧ (f < 0 ∨ aheadP m t f.toNat)
    · rw [if_pos c]
      refine Or.inr ⟨t, rfl, by omega, c.1, fun j hj hr hne => ?_⟩
      have hj' : j < t := by omega
      rcases h with ⟨rfl, h2⟩ | ⟨q, rfl, h2, h3, h4⟩
      · rw [h2 j hj'] at hr; cases hr
      · have cc : aheadP m t q := by
          rcases c.2 with z | z
          · omega
          · rwa [show ((q : Int)).toNat = q by omega] at z
        by_cases jq : j = q
        · subst jq; exact cc
        · have := h4 j hj' hr jq
          omega
    · rw [if_neg c]
      rcases h with ⟨rfl, h2⟩ | ⟨q, rfl, h2, h3, h4⟩
      · refine Or.inl ⟨rfl, fun j hj => ?_⟩
        by_cases jt : j = t
        · subst jt
          cases e : readyB m j with
          | false => rfl
          | true => exact absurd ⟨e, Or.inl (by decide)⟩ c
        · exact h2 j (by omega)
      · refine Or.inr ⟨q, rfl, by omega, h3, fun j hj hr hne => ?_⟩
        by_cases jt : j = t
        · subst jt
          have z : ¬ aheadP m j q := fun z => c ⟨hr, Or.inr (by rw [show ((q : Int)).toNat = q by omega]; exact z)⟩
          omega
        · exact h4 j (by omega) hr hne
theorem rdO_no {T : Nat} : ∀ (n i : Nat), (∀ j, i ≤ j → j < i + n → readyB m j = false) → rdO m T 0 n i = -5
  | 0, _, _ => rfl
  | n + 1, i, h => by
    unfold rdO
    rw [if_neg (fun z => by rw [h i (Nat.le_refl _) (by omega)] at z; exact absurd z.1 (by decide))]
    exact rdO_no n (i + 1) (fun j h1 h2 => h j (by omega) (by omega))
theorem rdO_at {T q : Nat} (hq : readyB m q = true ∧ cnt (rdB m q) T = 0) (ho : ∀ j, j < q → readyB m j = true → ¬ cnt (rdB m j) T = 0) : ∀ (n i : Nat), i ≤ q → q < i + n → rdO m T 0 n i = q
  | 0, _, _, h => by omega
  | n + 1, i, h1, h2 => by
    unfold rdO
    by_cases c : i = q
    · subst c; rw [if_pos hq]
    · rw [if_neg (fun z => ho i (by omega) z.1 z.2)]
      exact rdO_at hq ho n (i + 1) (by omega) (by omega)
theorem ready_next {T : Nat} (hT : (m 3).toNat = T) : readyV m T 0 = nextV m := by
  unfold readyV nextV
  rw [if_neg (by decide), hT]
  rcases nx_best (m := m) T 0 (-5) (Or.inl ⟨rfl, fun j hj => absurd hj (Nat.not_lt_zero _)⟩) with ⟨e, h⟩ | ⟨q, e, h1, h2, h3⟩
  · rw [e]; exact rdO_no T 0 (fun j _ hj => h j hj)
  · rw [e]
    rw [Nat.zero_add] at h1 h3
    refine rdO_at ⟨h2, cnt_zero _ (fun j hj => ?_)⟩ (fun j hj hr z => ?_) T 0 (Nat.zero_le _) (by omega)
    · cases e : rdB m q j with
      | false => rfl
      | true =>
        unfold rdB at e
        rw [Bool.and_eq_true, Bool.and_eq_true] at e
        have a1 := of_decide_eq_true e.2.1
        have a2 := of_decide_eq_true e.2.2
        have a3 := h3 j hj e.1 a1
        omega
    · have := cnt_one (p := rdB m j) (w := q) (by
        unfold rdB
        rw [h2, decide_eq_true (show ¬ q = j by omega), decide_eq_true (h3 j (by omega) hr (by omega))]; rfl) T (by omega)
      omega
/-- the youngest of those that are held in a scope -/
theorem yg_spec {C : Nat} {a : Int} : ∀ (n t : Nat) (f : Int), ((f = -5 ∧ ∀ j, j < t → heldInB m C a j = false) ∨ ∃ q : Nat, f = q ∧ q < t ∧ heldInB m C a q = true) → ((ygL m C a n t f = -5 ∧ ∀ j, j < t + n → heldInB m C a j = false) ∨ ∃ q : Nat, ygL m C a n t f = q ∧ q < t + n ∧ heldInB m C a q = true)
  | 0, t, f, h => h
  | n + 1, t, f, h => by
    unfold ygL
    rw [show t + (n + 1) = t + 1 + n by omega]
    refine yg_spec n (t + 1) _ ?_
    by_cases c : heldInB m C a t = true
    · rw [if_pos c]; exact Or.inr ⟨t, rfl, by omega, c⟩
    · rw [if_neg c]
      rcases h with ⟨rfl, h2⟩ | ⟨q, rfl, h2, h3⟩
      · refine Or.inl ⟨rfl, fun j hj => ?_⟩
        by_cases jt : j = t
        · subst jt; exact Bool.eq_false_iff.mpr c
        · exact h2 j (by omega)
      · exact Or.inr ⟨q, rfl, by omega, h3⟩
theorem young_is {N C : Nat} {a : Int} (ha : 0 ≤ a ∧ a ≤ m 0 - 1) : (youngV m N C a = -5 ∧ cnt (heldInB m C a) N = 0) ∨ ∃ q : Nat, youngV m N C a = q ∧ q < N ∧ m (258 + 14 * q) = 0 ∧ 1 ≤ cnt (heldInB m C a) N := by
  unfold youngV
  rw [if_pos ha]
  rcases yg_spec (m := m) (C := C) (a := a) N 0 (-5) (Or.inl ⟨rfl, fun j hj => absurd hj (Nat.not_lt_zero _)⟩) with ⟨e, h⟩ | ⟨q, e, h1, h2⟩
  · exact Or.inl ⟨e, cnt_zero _ (fun j hj => h j (by omega))⟩
  · rw [Nat.zero_add] at h1
    refine Or.inr ⟨q, e, h1, ?_, cnt_one h2 N h1⟩
    unfold heldInB at h2
    rw [Bool.and_eq_true] at h2
    exact of_decide_eq_true h2.1
/-- below the first scope, and below itself -/
theorem below_root (h : ScI m) {a : Int} (ha : 0 ≤ a ∧ a ≤ m 0 - 1) : belowV m (m 0).toNat a 0 = 1 := by
  unfold belowV
  obtain ⟨q, rfl⟩ : ∃ q : Nat, a = q := ⟨a.toNat, by omega⟩
  rw [if_pos ⟨ha, by omega⟩]
  unfold belowB
  rw [up_root h (m 0).toNat q (by omega) (by omega)]
  rfl
theorem below_self {a : Int} (ha : 0 ≤ a ∧ a ≤ m 0 - 1) : belowV m (m 0).toNat a a = 1 := by
  unfold belowV
  rw [if_pos ⟨ha, ha⟩]
  unfold belowB
  have e : upK m a (m 0).toNat a = a := by
    cases (m 0).toNat with
    | zero => rfl
    | succ n => unfold upK; rw [if_neg (fun z => z.2 rfl)]
  rw [e, decide_eq_true rfl]
  rfl
/-- a scope that was just opened has no entries -/
theorem ents_none (hj : JI m) (h : ScI m) {N C : Nat} (hN : (m 1).toNat = N) (hC : (m 0).toNat + 1 = C) {m' : Nat → Int} (e1 : ∀ q, 258 ≤ q → m' q = m q) (e0 : ∀ c : Nat, (c : Int) < m 0 → m' (18 + 4 * c) = m (18 + 4 * c) ∧ m' (19 + 4 * c) = m (19 + 4 * c)) {p : Int} (ep : m' (19 + 4 * (m 0).toNat) = p) (hp : ¬ p = m 0) : entsN m' (m 0) N C = 0 := by
  have b := hj.1
  unfold entsN
  rw [cnt_zero N (fun t ht => ?_), cnt_zero C (fun c hc => ?_)]
  · rfl
  · unfold entSC
    by_cases c1 : 1 ≤ c
    · rw [decide_eq_true c1, Bool.true_and]
      unfold entSB
      refine decide_eq_false (fun z => ?_)
      by_cases cc : (c : Int) < m 0
      · rw [(e0 c cc).2] at z
        have := ((h.2.2 c cc).2 c1).1
        omega
      · obtain rfl : c = (m 0).toNat := by omega
        rw [ep] at z
        exact hp z.2
    · rw [decide_eq_false c1, Bool.false_and]
  · unfold entTB
    refine decide_eq_false (fun z => ?_)
    rw [e1 _ (by omega), e1 _ (by omega)] at z
    obtain ⟨a, ha, ha2, -⟩ := hj.2.2.1 t (by omega) (by omega)
    omega
end M3

/-! ===== what holds of the reference's row between steps, and what a step keeps ===== -/
theorem cnt_congr {p p' : Nat → Bool} : ∀ n : Nat, (∀ q, q < n → p q = p' q) → cnt p n = cnt p' n
  | 0, _ => rfl
  | n + 1, h => by
    unfold cnt
    rw [cnt_congr n (fun q hq => h q (by omega)), h n (by omega)]
theorem cnt_S {p : Nat → Bool} {n : Nat} : cnt p (n + 1) = cnt p n + (if p n then 1 else 0) := rfl
theorem cnt_upd {p p' : Nat → Bool} {t M : Nat} (h1 : p t = false) (h2 : p' t = true) (h : ∀ q, q < M → q ≠ t → p q = p' q) : ∀ n : Nat, n ≤ M → cnt p' n = cnt p n + (if t < n then 1 else 0)
  | 0, _ => by rw [if_neg (Nat.not_lt_zero t)]; rfl
  | n + 1, hn => by
    have ih := cnt_upd h1 h2 h n (by omega)
    rw [cnt_S, cnt_S, ih]
    by_cases c : n = t
    · subst c
      rw [h1, h2, if_neg (Nat.lt_irrefl n), if_pos (Nat.lt_succ_self n)]
      simp
    · rw [h n (by omega) c]
      generalize (if p' n = true then (1 : Int) else 0) = z
      by_cases d : t < n
      · rw [if_pos d, if_pos (show t < n + 1 by omega)]; omega
      · rw [if_neg d, if_neg (show ¬ t < n + 1 by omega)]; omega
theorem cnt_none {p : Nat → Bool} {N : Nat} : ∀ k : Nat, (∀ j, N ≤ j → j < N + k → p j = false) → cnt p (N + k) = cnt p N
  | 0, _ => rfl
  | k + 1, h => by
    rw [show N + (k + 1) = (N + k) + 1 by omega, cnt_S, h (N + k) (by omega) (by omega), cnt_none k (fun j a b => h j a (by omega))]
    simp
theorem cnt_lt {p : Nat → Bool} {t : Nat} (h : p t = false) : ∀ n : Nat, t < n → cnt p n < n
  | 0, g => by omega
  | n + 1, g => by
    unfold cnt
    by_cases c : n = t
    · subst c
      rw [h]
      have := cnt_r p n
      simp; omega
    · have := cnt_lt h n (by omega)
      split <;> omega
def clsB (m : Nat → Int) (q : Nat) : Bool := decide (m (258 + 14 * q) = 2)
def cngB (m : Nat → Int) (q : Nat) : Bool := decide (m (258 + 14 * q) = 1)
def textT (b : Int) (pool : Nat → Int) (P E : Nat) : Prop := P ≤ E ∧ E ≤ P + 120 ∧ ((P = E ∧ E ≤ 12200) ∨ ((E : Int) < b ∧ ∃ n, stsC pool n P E))
theorem textT.up {b b' : Int} {pool : Nat → Int} {P E : Nat} (h : textT b pool P E) (hb : b ≤ b') : textT b' pool P E := ⟨h.1, h.2.1, h.2.2.elim Or.inl (fun z => Or.inr ⟨by omega, z.2⟩)⟩
theorem textT.le {b : Int} {pool : Nat → Int} {P E : Nat} (h : textT b pool P E) (hb : b ≤ 12200) : E ≤ 12200 := h.2.2.elim (fun z => z.2) (fun z => by omega)
def thOk (m pool : Nat → Int) (t : Nat) : Prop := (0 ≤ m (258 + 14 * t) ∧ m (258 + 14 * t) ≤ 2) ∧ (0 ≤ m (259 + 14 * t) ∧ m (259 + 14 * t) < m 0) ∧ (1 ≤ m (261 + 14 * t) ∧ 0 ≤ m (260 + 14 * t) ∧ m (260 + 14 * t) ≤ m 6) ∧ ∃ P E : Nat, m (262 + 14 * t) = P ∧ m (263 + 14 * t) = E ∧ textT (m 8) pool P E
def Inv (m pool : Nat → Int) (B : Int) : Prop :=
  mOk m ∧ (1 ≤ m 0 ∧ 0 ≤ m 8 ∧ m 8 ≤ 12200) ∧ (∀ t : Nat, (t : Int) < m 1 → thOk m pool t) ∧ (cnt (clsB m) (m 1).toNat = m 2 ∧ m 4 ≤ m 2 ∧ m 5 ≤ m 2) ∧ (0 ≤ m 6 ∧ m 6 + 121 * (90 - m 2) ≤ B) ∧ (∀ t k : Nat, t < 90 → k < 7 → 0 ≤ m (265 + 14 * t + k) ∧ m (265 + 14 * t + k) ≤ 122)
theorem Inv.up {m pool : Nat → Int} {B B' : Int} (h : Inv m pool B) (hb : B ≤ B') : Inv m pool B' := by
  obtain ⟨h1, h2, h3, h4, ⟨h5, h6⟩, h7⟩ := h
  exact ⟨h1, h2, h3, h4, ⟨h5, by omega⟩, h7⟩
/-- cells that closers leave alone -/
def far (q : Nat) : Prop := q = 0 ∨ q = 3 ∨ q = 7 ∨ q = 8 ∨ (18 ≤ q ∧ q < 258) ∨ (1608 ≤ q ∧ q < 2328 ∧ ∀ t : Nat, q ≠ 1614 + 72 * t)
/-- what may have happened by a closer's step -/
def Ev (m m' : Nat → Int) : Prop :=
  (∀ q, far q → m' q = m q) ∧ m 1 ≤ m' 1 ∧ (m 2 ≤ m' 2 ∧ m 6 ≤ m' 6) ∧
  (∀ t : Nat, (t : Int) < m 1 → m' (262 + 14 * t) = m (262 + 14 * t) ∧ m' (263 + 14 * t) = m (263 + 14 * t) ∧ (m' (258 + 14 * t) = 1 ↔ m (258 + 14 * t) = 1) ∧ (m (258 + 14 * t) = 2 → m' (258 + 14 * t) = 2)) ∧
  (∀ t : Nat, m 1 ≤ (t : Int) → (t : Int) < m' 1 → ¬ m' (258 + 14 * t) = 1) ∧
  (∀ t : Nat, t ≤ 9 → m' (1614 + 72 * t) = m (1614 + 72 * t) ∨ m' (1614 + 72 * t) = 1)
theorem Ev.rf {m : Nat → Int} : Ev m m := ⟨fun _ _ => rfl, Int.le_refl _, ⟨Int.le_refl _, Int.le_refl _⟩, fun _ _ => ⟨rfl, rfl, Iff.rfl, id⟩, fun t a b => by omega, fun _ _ => Or.inl rfl⟩
theorem Ev.tr {a b c : Nat → Int} (h : Ev a b) (k : Ev b c) : Ev a c := by
  obtain ⟨h1, h2, h3, h4, h5, h6⟩ := h
  obtain ⟨k1, k2, k3, k4, k5, k6⟩ := k
  refine ⟨fun q hq => (k1 q hq).trans (h1 q hq), by omega, by omega, fun t ht => ?_, fun t x y => ?_, fun t ht => ?_⟩
  · obtain ⟨z1, z2, z3, z4⟩ := h4 t ht
    obtain ⟨w1, w2, w3, w4⟩ := k4 t (by omega)
    exact ⟨w1.trans z1, w2.trans z2, w3.trans z3, fun g => w4 (z4 g)⟩
  · by_cases g : (t : Int) < b 1
    · obtain ⟨w1, w2, w3, w4⟩ := k4 t g
      have := h5 t x g
      exact fun q => this (w3.mp q)
    · exact k5 t (by omega) y
  · rcases k6 t ht with w | w
    · rw [w]; exact h6 t ht
    · exact Or.inr w
theorem Ev.cng {m m' : Nat → Int} (h : Ev m m') (h0 : 0 ≤ m 1) : cnt (cngB m') (m' 1).toNat = cnt (cngB m) (m 1).toNat := by
  obtain ⟨h1, h2, h3, h4, h5, h6⟩ := h
  have e1 : cnt (cngB m') (m 1).toNat = cnt (cngB m) (m 1).toNat := cnt_congr _ (fun q hq => by
    obtain ⟨w1, w2, w3, w4⟩ := h4 q (by omega)
    unfold cngB
    by_cases g : m (258 + 14 * q) = 1
    · rw [decide_eq_true g, decide_eq_true (w3.mpr g)]
    · rw [decide_eq_false g, decide_eq_false (fun z => g (w3.mp z))])
  rw [← e1]
  have := cnt_none (p := cngB m') (N := (m 1).toNat) ((m' 1).toNat - (m 1).toNat) (fun j a b => decide_eq_false (h5 j (by omega) (by omega)))
  rw [show (m 1).toNat + ((m' 1).toNat - (m 1).toNat) = (m' 1).toNat by omega] at this
  exact this
theorem Inv.lt {m pool : Nat → Int} {B : Int} (h : Inv m pool B) {t : Nat} (h1 : (t : Int) < m 1) (h2 : ¬ m (258 + 14 * t) = 2) : m 2 < m 1 ∧ m 2 ≤ 89 ∧ m 4 ≤ 89 ∧ m 5 ≤ 89 := by
  obtain ⟨⟨hM, k0, k1, k2, k3, k4, k5, k7⟩, g2, g3, ⟨g4, g5, g6⟩, -⟩ := h
  have := cnt_lt (p := clsB m) (t := t) (decide_eq_false h2) (m 1).toNat (by omega)
  omega
theorem updM_in {m : Nat → Int} (hM : ∀ q, InR (m q)) {k : Nat} {v : Int} (hv : InR v) : ∀ q, InR (updI m k v q) := by
  intro q; unfold updI; split
  · exact hv
  · exact hM q
/-- a cell that Inv doesn't speak of -/
theorem Inv.out {m pool : Nat → Int} {B : Int} (h : Inv m pool B) {k : Nat} {v : Int} (hv : InR v) (hk : 7 ≤ k ∧ ¬ k = 8) (hk2 : k < 258 ∨ 1518 ≤ k) : Inv (updI m k v) pool B := by
  obtain ⟨⟨hM, k0, k1, k2, k3, k4, k5, k7⟩, g2, g3, g4, g5, g6⟩ := h
  have e : ∀ q, (q < 7 ∨ q = 8) → updI m k v q = m q := fun q hq => updI_n (by omega)
  have e2 : ∀ q, 258 ≤ q → q < 1518 → updI m k v q = m q := fun q a b => updI_n (by omega)
  have c : cnt (clsB (updI m k v)) (m 1).toNat = cnt (clsB m) (m 1).toNat := cnt_congr _ (fun q hq => by unfold clsB; rw [e2 _ (by omega) (by omega)])
  refine ⟨⟨updM_in hM hv, ?_⟩, ?_⟩
  · rw [e 0 (by omega), e 1 (by omega), e 2 (by omega), e 3 (by omega), e 4 (by omega), e 5 (by omega)]
    exact ⟨k0, k1, k2, k3, k4, k5, fun t ht => by rw [e2 _ (by omega) (by omega)]; exact k7 t ht⟩
  · rw [e 0 (by omega), e 1 (by omega), e 2 (by omega), e 4 (by omega), e 5 (by omega), e 6 (by omega), e 8 (by omega), c]
    refine ⟨g2, fun t ht => ?_, g4, g5, fun t j ht hj => by rw [e2 _ (by omega) (by omega)]; exact g6 t j ht hj⟩
    have := g3 t ht
    unfold thOk at this ⊢
    rw [e2 (258 + 14 * t) (by omega) (by omega), e2 (259 + 14 * t) (by omega) (by omega), e2 (260 + 14 * t) (by omega) (by omega), e 6 (by omega), e2 (261 + 14 * t) (by omega) (by omega), e2 (262 + 14 * t) (by omega) (by omega), e2 (263 + 14 * t) (by omega) (by omega), e 0 (by omega), e 8 (by omega)]
    exact this
theorem Ev.out {m : Nat → Int} {k : Nat} {v : Int} (hf : ¬ far k) (hk : 7 ≤ k) (hk2 : k < 258 ∨ 1518 ≤ k) (h1 : m 1 ≤ 90) (ha : k < 258 ∨ v = 1) : Ev m (updI m k v) := by
  have e : ∀ q, q < 7 → updI m k v q = m q := fun q hq => updI_n (by omega)
  refine ⟨fun q hq => updI_n (fun z => hf (z ▸ hq)), ?_, ?_, fun t ht => ?_, fun t a b => ?_, fun t ht => ?_⟩
  · rw [e 1 (by omega)]; exact Int.le_refl _
  · rw [e 2 (by omega), e 6 (by omega)]; exact ⟨Int.le_refl _, Int.le_refl _⟩
  · rw [updI_n (by omega), updI_n (by omega), updI_n (by omega)]
    exact ⟨rfl, rfl, Iff.rfl, id⟩
  · rw [e 1 (by omega)] at b; omega
  · by_cases c : 1614 + 72 * t = k
    · rcases ha with ha | ha
      · omega
      · rw [← c, updI_s]; exact Or.inr ha
    · rw [updI_n c]; exact Or.inl rfl
/-! a THING is MOVED -/
theorem inv_move {m pool : Nat → Int} {B : Int} (h : Inv m pool B) {t : Nat} {s : Int} (ht : (t : Int) < m 1) (hs : 0 ≤ s ∧ s < m 0) (hB : B ≤ 2000000000) : Inv (movesM m t s) pool (B + 1) ∧ Ev m (movesM m t s) := by
  obtain ⟨⟨hM, k0, k1, k2, k3, k4, k5, k7⟩, g2, g3, g4, g5, g6⟩ := h
  have e : ∀ q, ¬ q = 6 → ¬ q = 259 + 14 * t → ¬ q = 260 + 14 * t → movesM m t s q = m q := fun q a b c => by
    unfold movesM
    rw [updI_n c, updI_n a, updI_n b]
  have e6 : movesM m t s 6 = m 6 + 1 := by unfold movesM; rw [updI_n (by omega), updI_s]
  have e0 : movesM m t s (260 + 14 * t) = m 6 + 1 := by unfold movesM; rw [updI_s]
  have e9 : movesM m t s (259 + 14 * t) = s := by unfold movesM; rw [updI_n (by omega), updI_n (by omega), updI_s]
  have r1 : InR (m 6 + 1) := ⟨by omega, by omega⟩
  have c : cnt (clsB (movesM m t s)) (m 1).toNat = cnt (clsB m) (m 1).toNat := cnt_congr _ (fun q hq => by unfold clsB; rw [e _ (by omega) (by omega) (by omega)])
  refine ⟨⟨⟨updM_in (updM_in (updM_in hM ⟨by omega, by omega⟩) r1) r1, ?_⟩, ?_⟩, ?_⟩
  · rw [e 0 (by omega) (by omega) (by omega), e 1 (by omega) (by omega) (by omega), e 2 (by omega) (by omega) (by omega), e 3 (by omega) (by omega) (by omega), e 4 (by omega) (by omega) (by omega), e 5 (by omega) (by omega) (by omega)]
    exact ⟨k0, k1, k2, k3, k4, k5, fun u hu => by rw [e _ (by omega) (by omega) (by omega)]; exact k7 u hu⟩
  · rw [e 0 (by omega) (by omega) (by omega), e 1 (by omega) (by omega) (by omega), e 2 (by omega) (by omega) (by omega), e 4 (by omega) (by omega) (by omega), e 5 (by omega) (by omega) (by omega), e 8 (by omega) (by omega) (by omega), e6, c]
    refine ⟨g2, fun u hu => ?_, g4, ⟨by omega, by omega⟩, fun u j hu hj => by rw [e _ (by omega) (by omega) (by omega)]; exact g6 u j hu hj⟩
    have z := g3 u hu
    unfold thOk at z ⊢
    rw [e (258 + 14 * u) (by omega) (by omega) (by omega), e6, e (261 + 14 * u) (by omega) (by omega) (by omega), e (262 + 14 * u) (by omega) (by omega) (by omega), e (263 + 14 * u) (by omega) (by omega) (by omega), e 0 (by omega) (by omega) (by omega), e 8 (by omega) (by omega) (by omega)]
    by_cases q : u = t
    · subst q; rw [e9, e0]; exact ⟨z.1, hs, ⟨z.2.2.1.1, by omega, Int.le_refl _⟩, z.2.2.2⟩
    · rw [e (259 + 14 * u) (by omega) (by omega) (by omega), e (260 + 14 * u) (by omega) (by omega) (by omega)]; exact ⟨z.1, z.2.1, ⟨z.2.2.1.1, z.2.2.1.2.1, by omega⟩, z.2.2.2⟩
  · refine ⟨fun q hq => ?_, ?_, ?_, fun u hu => ?_, fun u a b => ?_, fun u hu => Or.inl (e _ (by omega) (by omega) (by omega))⟩
    · unfold far at hq; rw [e q (by omega) (by omega) (by omega)]
    · rw [e 1 (by omega) (by omega) (by omega)]; exact Int.le_refl _
    · rw [e 2 (by omega) (by omega) (by omega), e6]; omega
    · rw [e _ (by omega) (by omega) (by omega), e _ (by omega) (by omega) (by omega), e _ (by omega) (by omega) (by omega)]
      exact ⟨rfl, rfl, Iff.rfl, id⟩
    · rw [e 1 (by omega) (by omega) (by omega)] at b; omega
/-! a THING comes -/
theorem nwL_at {rc : Nat → Int} {t fr : Nat} : ∀ (n k : Nat) (m : Nat → Int) (q : Nat), fr ≤ k → nwL rc t fr n k m q = if 265 + 14 * t + (k - fr) ≤ q ∧ q < 265 + 14 * t + (k - fr) + n then rc (fr + (q - (265 + 14 * t))) else m q
  | 0, k, m, q, h => by
    unfold nwL; rw [if_neg (by omega)]
  | n + 1, k, m, q, h => by
    unfold nwL
    rw [nwL_at n (k + 1) _ q (by omega)]
    by_cases c : q = 265 + 14 * t + (k - fr)
    · subst c
      rw [if_neg (by omega), updI_s, if_pos (by omega)]
      congr 1; omega
    · rw [updI_n c]
      by_cases d : 265 + 14 * t + (k + 1 - fr) ≤ q ∧ q < 265 + 14 * t + (k + 1 - fr) + n
      · rw [if_pos d, if_pos (by omega)]
      · rw [if_neg d, if_neg (by omega)]
theorem namesM_at {m rc : Nat → Int} {t fr to q : Nat} : namesM m rc t fr to q = if 265 + 14 * t ≤ q ∧ q < 265 + 14 * t + (to - fr) then rc (fr + (q - (265 + 14 * t))) else updI m (261 + 14 * t) ((to : Int) - fr) q := by
  unfold namesM
  rw [nwL_at _ _ _ _ (Nat.le_refl _), Nat.sub_self, Nat.add_zero]
section TK
variable {m rc : Nat → Int} {N fr to : Nat} {o p e : Int}
theorem takesM_n (h7 : to - fr ≤ 7) {q : Nat} (h1 : ¬ q = 1) (h6 : ¬ q = 6) (hq : q < 258 + 14 * N ∨ 272 + 14 * N ≤ q) : takesM m rc N o fr to p e q = m q := by
  unfold takesM
  rw [updI_n (by omega), updI_n (by omega), updI_n (by omega), namesM_at, if_neg (by omega), updI_n (by omega), updI_n (by omega), updI_n (by omega), updI_n (by omega), updI_n (by omega), updI_n (by omega)]
theorem takesM_1 : takesM m rc N o fr to p e 1 = N + 1 := by
  unfold takesM
  rw [updI_n (by omega), updI_n (by omega), updI_n (by omega), namesM_at, if_neg (by omega), updI_n (by omega), updI_n (by omega), updI_n (by omega), updI_n (by omega), updI_n (by omega), updI_s]
theorem takesM_6 : takesM m rc N o fr to p e 6 = m 6 + 1 := by
  unfold takesM
  rw [updI_n (by omega), updI_n (by omega), updI_n (by omega), namesM_at, if_neg (by omega), updI_n (by omega), updI_n (by omega), updI_s]
theorem takesM_st : takesM m rc N o fr to p e (258 + 14 * N) = 0 := by
  unfold takesM
  rw [updI_n (by omega), updI_n (by omega), updI_n (by omega), namesM_at, if_neg (by omega), updI_n (by omega), updI_n (by omega), updI_n (by omega), updI_n (by omega), updI_s]
theorem takesM_ow : takesM m rc N o fr to p e (259 + 14 * N) = o := by
  unfold takesM
  rw [updI_n (by omega), updI_n (by omega), updI_n (by omega), namesM_at, if_neg (by omega), updI_n (by omega), updI_n (by omega), updI_n (by omega), updI_s]
theorem takesM_sp : takesM m rc N o fr to p e (260 + 14 * N) = m 6 + 1 := by
  unfold takesM
  rw [updI_n (by omega), updI_n (by omega), updI_n (by omega), namesM_at, if_neg (by omega), updI_n (by omega), updI_s]
theorem takesM_ln : takesM m rc N o fr to p e (261 + 14 * N) = (to : Int) - fr := by
  unfold takesM
  rw [updI_n (by omega), updI_n (by omega), updI_n (by omega), namesM_at, if_neg (by omega), updI_s]
theorem takesM_p : takesM m rc N o fr to p e (262 + 14 * N) = p := by
  unfold takesM
  rw [updI_n (by omega), updI_n (by omega), updI_s]
theorem takesM_e : takesM m rc N o fr to p e (263 + 14 * N) = e := by
  unfold takesM
  rw [updI_n (by omega), updI_s]
theorem takesM_pl : takesM m rc N o fr to p e (264 + 14 * N) = -5 := by
  unfold takesM
  rw [updI_s]
theorem takesM_nm (h7 : to - fr ≤ 7) {k : Nat} (hk : k < 7) : takesM m rc N o fr to p e (265 + 14 * N + k) = if k < to - fr then rc (fr + k) else m (265 + 14 * N + k) := by
  unfold takesM
  rw [updI_n (by omega), updI_n (by omega), updI_n (by omega), namesM_at]
  by_cases c : k < to - fr
  · rw [if_pos (by omega), if_pos c]
    congr 1; omega
  · rw [if_neg (by omega), if_neg c, updI_n (by omega), updI_n (by omega), updI_n (by omega), updI_n (by omega), updI_n (by omega), updI_n (by omega)]
end TK
theorem takesM_in {m rc : Nat → Int} (hM : ∀ q, InR (m q)) (hr : ∀ q, InR (rc q)) {N fr to : Nat} {o p e : Int} (h6 : InR (m 6 + 1)) (hN : N ≤ 89) (ho : InR o) (hp : InR p) (he : InR e) (h7 : to - fr ≤ 7) (hft : fr ≤ to) : ∀ q, InR (takesM m rc N o fr to p e q) := by
  intro q
  unfold takesM
  refine updM_in (updM_in (updM_in (fun q => ?_) hp) he) (by decide) q
  rw [namesM_at]
  split
  · exact hr _
  · exact updM_in (updM_in (updM_in (updM_in (updM_in (updM_in hM ⟨by omega, by omega⟩) (by decide)) ho) h6) h6) ⟨by omega, by omega⟩ q
theorem inv_take {m pool rc : Nat → Int} {B : Int} (h : Inv m pool B) {N fr to : Nat} {o : Int} {P E : Nat} (hN : m 1 = (N : Int)) (h9 : N < 90) (ho : 0 ≤ o ∧ o < m 0) (hn : 1 ≤ to - fr ∧ to - fr ≤ 7) (hft : fr ≤ to) (hr : ∀ q, InR (rc q)) (hl : ∀ j, fr ≤ j → j < to → isLt (rc j)) (hx : textT (m 8) pool P E) (hB : B ≤ 2000000000) : Inv (takesM m rc N o fr to P E) pool (B + 1) ∧ Ev m (takesM m rc N o fr to P E) := by
  obtain ⟨⟨hM, k0, k1, k2, k3, k4, k5, k7⟩, g2, g3, g4, g5, g6⟩ := h
  have e : ∀ q, ¬ q = 1 → ¬ q = 6 → (q < 258 + 14 * N ∨ 272 + 14 * N ≤ q) → takesM m rc N o fr to P E q = m q := fun q a b c => takesM_n hn.2 a b c
  have hx1 := hx.le g2.2.2
  have hx2 := hx.1
  have c : cnt (clsB (takesM m rc N o fr to P E)) (m 1).toNat = cnt (clsB m) (m 1).toNat := cnt_congr _ (fun q hq => by unfold clsB; rw [e _ (by omega) (by omega) (by omega)])
  refine ⟨⟨⟨takesM_in hM hr ⟨by omega, by omega⟩ (by omega) ⟨by omega, by omega⟩ ⟨by omega, by omega⟩ ⟨by omega, by omega⟩ hn.2 hft, ?_⟩, ?_⟩, ?_⟩
  · rw [e 0 (by omega) (by omega) (by omega), takesM_1, e 2 (by omega) (by omega) (by omega), e 3 (by omega) (by omega) (by omega), e 4 (by omega) (by omega) (by omega), e 5 (by omega) (by omega) (by omega)]
    refine ⟨k0, ⟨by omega, by omega⟩, k2, k3, k4, k5, fun u hu => ?_⟩
    by_cases q : u = N
    · subst q; rw [takesM_ln]; omega
    · rw [e _ (by omega) (by omega) (by omega)]; exact k7 u (by omega)
  · rw [e 0 (by omega) (by omega) (by omega), takesM_1, e 2 (by omega) (by omega) (by omega), e 4 (by omega) (by omega) (by omega), e 5 (by omega) (by omega) (by omega), takesM_6, e 8 (by omega) (by omega) (by omega), show ((N : Int) + 1).toNat = (m 1).toNat + 1 by omega]
    refine ⟨g2, fun u hu => ?_, ⟨?_, g4.2⟩, ⟨by omega, by omega⟩, fun u j hu hj => ?_⟩
    · by_cases q : u = N
      · subst q
        unfold thOk
        rw [takesM_st, takesM_ow, takesM_ln, takesM_sp, takesM_6, takesM_p, takesM_e, e 0 (by omega) (by omega) (by omega), e 8 (by omega) (by omega) (by omega)]
        exact ⟨⟨by omega, by omega⟩, ho, ⟨by omega, by omega, Int.le_refl _⟩, P, E, rfl, rfl, hx⟩
      · have z := g3 u (by omega)
        unfold thOk at z ⊢
        rw [e (258 + 14 * u) (by omega) (by omega) (by omega), e (259 + 14 * u) (by omega) (by omega) (by omega), e (260 + 14 * u) (by omega) (by omega) (by omega), takesM_6, e (261 + 14 * u) (by omega) (by omega) (by omega), e (262 + 14 * u) (by omega) (by omega) (by omega), e (263 + 14 * u) (by omega) (by omega) (by omega), e 0 (by omega) (by omega) (by omega), e 8 (by omega) (by omega) (by omega)]
        exact ⟨z.1, z.2.1, ⟨z.2.2.1.1, z.2.2.1.2.1, by omega⟩, z.2.2.2⟩
    · unfold cnt
      rw [c, show (m 1).toNat = N by omega, show clsB (takesM m rc N o fr to P E) N = false from decide_eq_false (by rw [takesM_st]; decide)]
      have := g4.1
      rw [show (m 1).toNat = N by omega] at this
      simp; omega
    · by_cases q : u = N
      · subst q
        rw [takesM_nm hn.2 hj]
        split
        · have := hl (fr + j) (by omega) (by omega)
          unfold isLt at this; omega
        · exact g6 u j hu hj
      · rw [e _ (by omega) (by omega) (by omega)]; exact g6 u j hu hj
  · refine ⟨fun q hq => ?_, ?_, ?_, fun u hu => ?_, fun u a b => ?_, fun u hu => Or.inl (e _ (by omega) (by omega) (by omega))⟩
    · unfold far at hq; rw [e q (by omega) (by omega) (by omega)]
    · rw [takesM_1]; omega
    · rw [e 2 (by omega) (by omega) (by omega), takesM_6]; omega
    · rw [e _ (by omega) (by omega) (by omega), e _ (by omega) (by omega) (by omega), e _ (by omega) (by omega) (by omega)]
      exact ⟨rfl, rfl, Iff.rfl, id⟩
    · rw [takesM_1] at b
      obtain rfl : u = N := by omega
      rw [takesM_st]; decide
/-! a fault is gathered -/
theorem inv_gath {m pool : Nat → Int} {B sink f : Int} (h : Inv m pool B) {t : Nat} (ht : t ≤ 89) (hs : InR sink) (hf : InR f) (h4 : m 4 ≤ 89) (h5 : m 5 ≤ 89) : (∀ q, InR (gathersM m sink f t q)) ∧ (∀ q, ¬ q = 4 → ¬ q = 5 → (q < 2328 ∨ 2928 ≤ q) → gathersM m sink f t q = m q) ∧ (gathersM m sink f t 4 = m 4 ∨ gathersM m sink f t 4 = m 4 + 1) ∧ (gathersM m sink f t 5 = m 5 ∨ gathersM m sink f t 5 = m 5 + 1) := by
  obtain ⟨⟨hM, k0, k1, k2, k3, k4, k5, k7⟩, g2, g3, g4, g5, g6⟩ := h
  have rt : InR (t : Int) := ⟨by omega, by omega⟩
  unfold gathersM
  split
  · refine ⟨updM_in (updM_in (updM_in hM hf) rt) ⟨by omega, by omega⟩, fun q a b c => ?_, Or.inl ?_, Or.inr ?_⟩
    · rw [updI_n b, updI_n (by omega), updI_n (by omega)]
    · rw [updI_n (by omega), updI_n (by omega), updI_n (by omega)]
    · rw [updI_s]
  · refine ⟨updM_in (updM_in (updM_in (updM_in hM hs) hf) rt) ⟨by omega, by omega⟩, fun q a b c => ?_, Or.inr ?_, Or.inl ?_⟩
    · rw [updI_n a, updI_n (by omega), updI_n (by omega), updI_n (by omega)]
    · rw [updI_s]
    · rw [updI_n (by omega), updI_n (by omega), updI_n (by omega), updI_n (by omega)]
/-! a THING is CLOSED: what its fault writes, its state, its place, THE LOG -/
theorem closedM_at {m : Nat → Int} {t : Nat} (h2 : 0 ≤ m 2 ∧ m 2 ≤ 89) (ht : t ≤ 89) : closedM m t 2 = m 2 + 1 ∧ closedM m t (258 + 14 * t) = 2 ∧ ∀ q, ¬ q = 2 → ¬ q = 258 + 14 * t → ¬ q = 264 + 14 * t → (q < 1518 ∨ 1608 ≤ q) → closedM m t q = m q := by
  unfold closedM
  refine ⟨updI_s, ?_, fun q a b c d => ?_⟩
  · rw [updI_n (by omega), updI_n (by omega), updI_n (by omega), updI_s]
  · rw [updI_n a, updI_n (by omega), updI_n c, updI_n b]
theorem closedM_in {m : Nat → Int} {t : Nat} (hM : ∀ q, InR (m q)) (h2 : 0 ≤ m 2 ∧ m 2 ≤ 89) (ht : t ≤ 89) : ∀ q, InR (closedM m t q) := by
  unfold closedM
  exact updM_in (updM_in (updM_in (updM_in hM (by decide)) (hM 2)) ⟨by omega, by omega⟩) ⟨by omega, by omega⟩
theorem inv_close {m pool : Nat → Int} {B sink f : Int} (h : Inv m pool B) {t : Nat} (ht : (t : Int) < m 1) (h1 : m (258 + 14 * t) = 1) (hs : InR sink) (hf : InR f) :
    Inv (closedM (if f = 0 then m else gathersM m sink f t) t) pool (B - 121) ∧ closedM (if f = 0 then m else gathersM m sink f t) t 2 = m 2 + 1 ∧ closedM (if f = 0 then m else gathersM m sink f t) t (258 + 14 * t) = 2 ∧
    ∀ q, ¬ q = 2 → ¬ q = 4 → ¬ q = 5 → ¬ q = 258 + 14 * t → ¬ q = 264 + 14 * t → (q < 1518 ∨ (1608 ≤ q ∧ q < 2328)) → closedM (if f = 0 then m else gathersM m sink f t) t q = m q := by
  obtain ⟨l1, l2, l3, l4⟩ := h.lt ht (by rw [h1]; decide)
  have hg : ∃ m2, m2 = (if f = 0 then m else gathersM m sink f t) ∧ (∀ q, InR (m2 q)) ∧ (∀ q, ¬ q = 4 → ¬ q = 5 → (q < 2328 ∨ 2928 ≤ q) → m2 q = m q) ∧ (m2 4 = m 4 ∨ m2 4 = m 4 + 1) ∧ (m2 5 = m 5 ∨ m2 5 = m 5 + 1) := by
    have k1 := h.1.2.2.1
    by_cases c : f = 0
    · exact ⟨m, by rw [if_pos c], h.1.1, fun _ _ _ _ => rfl, Or.inl rfl, Or.inl rfl⟩
    · obtain ⟨a, b, cc, d⟩ := inv_gath (sink := sink) (f := f) h (t := t) (by omega) hs hf l3 l4
      exact ⟨gathersM m sink f t, by rw [if_neg c], a, b, cc, d⟩
  obtain ⟨m2, e2, hM2, n2, n4, n5⟩ := hg
  rw [← e2]
  obtain ⟨⟨hM, k0, k1, k2, k3, k4, k5, k7⟩, g2, g3, g4, g5, g6⟩ := h
  have q2 : m2 2 = m 2 := n2 2 (by omega) (by omega) (by omega)
  have t9 : t ≤ 89 := by omega
  obtain ⟨c1, c2, c3⟩ := closedM_at (m := m2) (t := t) (by omega) t9
  have e : ∀ q, ¬ q = 2 → ¬ q = 4 → ¬ q = 5 → ¬ q = 258 + 14 * t → ¬ q = 264 + 14 * t → (q < 1518 ∨ (1608 ≤ q ∧ q < 2328)) → closedM m2 t q = m q := fun q a b c d x y => (c3 q a d x (by omega)).trans (n2 q b c (by omega))
  have z4 : closedM m2 t 4 = m2 4 := c3 4 (by omega) (by omega) (by omega) (by omega)
  have z5 : closedM m2 t 5 = m2 5 := c3 5 (by omega) (by omega) (by omega) (by omega)
  have cc := cnt_upd (p := clsB m) (p' := clsB (closedM m2 t)) (t := t) (decide_eq_false (by rw [h1]; decide)) (decide_eq_true c2) (M := 90) (fun q hq hq2 => by unfold clsB; rw [e _ (by omega) (by omega) (by omega) (by omega) (by omega) (by omega)]) (m 1).toNat (by omega)
  refine ⟨⟨⟨closedM_in hM2 (by omega) t9, ?_⟩, ?_⟩, by rw [c1, q2], c2, e⟩
  · rw [e 0 (by omega) (by omega) (by omega) (by omega) (by omega) (by omega), e 1 (by omega) (by omega) (by omega) (by omega) (by omega) (by omega), c1, e 3 (by omega) (by omega) (by omega) (by omega) (by omega) (by omega), z4, z5]
    exact ⟨k0, k1, ⟨by omega, by omega⟩, k3, ⟨by omega, by omega⟩, ⟨by omega, by omega⟩, fun u hu => by rw [e _ (by omega) (by omega) (by omega) (by omega) (by omega) (by omega)]; exact k7 u hu⟩
  · rw [e 0 (by omega) (by omega) (by omega) (by omega) (by omega) (by omega), e 1 (by omega) (by omega) (by omega) (by omega) (by omega) (by omega), c1, z4, z5, e 6 (by omega) (by omega) (by omega) (by omega) (by omega) (by omega), e 8 (by omega) (by omega) (by omega) (by omega) (by omega) (by omega), cc, if_pos (by omega)]
    refine ⟨g2, fun u hu => ?_, ⟨by omega, by omega, by omega⟩, ⟨by omega, by omega⟩, fun u j hu hj => by rw [e _ (by omega) (by omega) (by omega) (by omega) (by omega) (by omega)]; exact g6 u j hu hj⟩
    have z := g3 u hu
    unfold thOk at z ⊢
    rw [e (259 + 14 * u) (by omega) (by omega) (by omega) (by omega) (by omega) (by omega), e (260 + 14 * u) (by omega) (by omega) (by omega) (by omega) (by omega) (by omega), e 6 (by omega) (by omega) (by omega) (by omega) (by omega) (by omega), e (261 + 14 * u) (by omega) (by omega) (by omega) (by omega) (by omega) (by omega), e (262 + 14 * u) (by omega) (by omega) (by omega) (by omega) (by omega) (by omega), e (263 + 14 * u) (by omega) (by omega) (by omega) (by omega) (by omega) (by omega), e 0 (by omega) (by omega) (by omega) (by omega) (by omega) (by omega), e 8 (by omega) (by omega) (by omega) (by omega) (by omega) (by omega)]
    refine ⟨?_, z.2⟩
    by_cases q : u = t
    · subst q; rw [c2]; exact ⟨by decide, by decide⟩
    · rw [e _ (by omega) (by omega) (by omega) (by omega) (by omega) (by omega)]; exact z.1
theorem inv_cng {m pool : Nat → Int} {B : Int} (h : Inv m pool B) {t : Nat} (ht : (t : Int) < m 1) (h0 : m (258 + 14 * t) = 0) : Inv (updI m (258 + 14 * t) 1) pool B ∧ cnt (cngB (updI m (258 + 14 * t) 1)) (m 1).toNat = cnt (cngB m) (m 1).toNat + 1 := by
  obtain ⟨⟨hM, k0, k1, k2, k3, k4, k5, k7⟩, g2, g3, g4, g5, g6⟩ := h
  have e : ∀ q, ¬ q = 258 + 14 * t → updI m (258 + 14 * t) 1 q = m q := fun q a => updI_n a
  have c : cnt (clsB (updI m (258 + 14 * t) 1)) (m 1).toNat = cnt (clsB m) (m 1).toNat := cnt_congr _ (fun q hq => by
    unfold clsB
    by_cases g : q = t
    · subst g; rw [updI_s, h0]; decide
    · rw [e _ (by omega)])
  have c2 := cnt_upd (p := cngB m) (p' := cngB (updI m (258 + 14 * t) 1)) (t := t) (decide_eq_false (by rw [h0]; decide)) (decide_eq_true updI_s) (M := 90) (fun q _ hq => by unfold cngB; rw [e _ (by omega)]) (m 1).toNat (by omega)
  rw [if_pos (by omega)] at c2
  refine ⟨⟨⟨updM_in hM (by decide), ?_⟩, ?_⟩, c2⟩
  · rw [e 0 (by omega), e 1 (by omega), e 2 (by omega), e 3 (by omega), e 4 (by omega), e 5 (by omega)]
    exact ⟨k0, k1, k2, k3, k4, k5, fun u hu => by rw [e _ (by omega)]; exact k7 u hu⟩
  · rw [e 0 (by omega), e 1 (by omega), e 2 (by omega), e 4 (by omega), e 5 (by omega), e 6 (by omega), e 8 (by omega), c]
    refine ⟨g2, fun u hu => ?_, g4, g5, fun u j hu hj => by rw [e _ (by omega)]; exact g6 u j hu hj⟩
    have z := g3 u hu
    unfold thOk at z ⊢
    rw [e (259 + 14 * u) (by omega), e (260 + 14 * u) (by omega), e 6 (by omega), e (261 + 14 * u) (by omega), e (262 + 14 * u) (by omega), e (263 + 14 * u) (by omega), e 0 (by omega), e 8 (by omega)]
    refine ⟨?_, z.2⟩
    by_cases q : u = t
    · subst q; rw [updI_s]; exact ⟨by decide, by decide⟩
    · rw [e _ (by omega)]; exact z.1

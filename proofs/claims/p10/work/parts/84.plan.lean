/-! ===== every PLAN comes to its end ===== -/
noncomputable def bP (P : Prop) : Bool := @decide P (Classical.propDecidable P)
theorem bP_t {P : Prop} : bP P = true ↔ P := by unfold bP; simp
theorem cnt_add {p1 p2 p : Nat → Bool} : ∀ n : Nat, (∀ t, t < n → p1 t = true → p t = true) → (∀ t, t < n → p2 t = true → p t = true) → (∀ t, t < n → p1 t = true → p2 t = true → False) → cnt p1 n + cnt p2 n ≤ cnt p n
  | 0, _, _, _ => Int.le_refl _
  | n + 1, h1, h2, h3 => by
    have ih := cnt_add n (fun t ht => h1 t (by omega)) (fun t ht => h2 t (by omega)) (fun t ht => h3 t (by omega))
    rw [cnt_S, cnt_S, cnt_S]
    cases a : p1 n <;> cases b : p2 n
    · simp only [Bool.false_eq_true, if_false]
      split <;> omega
    · have := h2 n (by omega) b
      rw [this]
      simp only [Bool.false_eq_true, if_false, if_true]
      omega
    · have := h1 n (by omega) a
      rw [this]
      simp only [Bool.false_eq_true, if_false, if_true]
      omega
    · exact (h3 n (by omega) a b).elim
theorem cnt_le {p1 p : Nat → Bool} (n : Nat) (h1 : ∀ t, t < n → p1 t = true → p t = true) : cnt p1 n ≤ cnt p n := by
  have := cnt_add (p1 := p1) (p2 := fun _ => false) (p := p) n h1 (fun t _ z => by cases z) (fun t _ _ z => by cases z)
  have z := (cnt_r (fun _ => false) n).1
  omega
/-- a scope's parent, so many times over -/
def itP (m : Nat → Int) : Nat → Nat → Option Nat
  | 0, a => some a
  | k + 1, a => if 0 ≤ m (19 + 4 * a) then itP m k (m (19 + 4 * a)).toNat else none
theorem itP_S {m : Nat → Int} {k a : Nat} : itP m (k + 1) a = if 0 ≤ m (19 + 4 * a) then itP m k (m (19 + 4 * a)).toNat else none := rfl
section PL
variable {m : Nat → Int} {N C : Nat}
def parI (m : Nat → Int) (C : Nat) : Prop := ∀ c : Nat, c < C → m (19 + 4 * c) < c
theorem itP_le (h : parI m C) : ∀ (k a c : Nat), a < C → itP m k a = some c → c ≤ a ∧ (1 ≤ k → c < a)
  | 0, a, c, ha, e => by
    have : a = c := by simpa [itP] using e
    omega
  | k + 1, a, c, ha, e => by
    unfold itP at e
    split at e
    · have hp := h a ha
      have := itP_le h k _ c (by omega) e
      omega
    · cases e
theorem itP_add : ∀ (i j a : Nat) (b : Nat), itP m i a = some b → itP m (i + j) a = itP m j b
  | 0, j, a, b, e => by
    have : a = b := by simpa [itP] using e
    subst this
    rw [Nat.zero_add]
  | i + 1, j, a, b, e => by
    rw [show i + 1 + j = (i + j) + 1 by omega, itP_S]
    rw [itP_S] at e
    split at e
    · rename_i g
      rw [if_pos g]
      exact itP_add i j _ b e
    · cases e
/-- a thing stands in an entry: it is it, or it is held in or below that scope -/
def inE (m : Nat → Int) (t e : Nat) : Prop := (e < 100 ∧ t = e) ∨ (100 ≤ e ∧ 0 ≤ m (259 + 14 * t) ∧ ∃ i, itP m i (m (259 + 14 * t)).toNat = some (e - 100))
theorem entP_c {s : Nat} {e : Nat} (h : entryP m N C s e) : (e < 100 ∧ e < N ∧ m (258 + 14 * e) = 0 ∧ m (259 + 14 * e) = s) ∨ (100 < e ∧ e < C + 100 ∧ m (19 + 4 * (e - 100)) = s) := by
  unfold entryP at h
  split at h
  · exact Or.inl ⟨by assumption, h⟩
  · exact Or.inr ⟨h.2.1, h.1, h.2.2.2⟩
theorem inE_one (hp : parI m C) (ho : ∀ t : Nat, t < N → m (259 + 14 * t) < C) {s t e e' : Nat} (ht : t < N) (h : entryP m N C s e) (h' : entryP m N C s e') (k : inE m t e) (k' : inE m t e') : e = e' := by
  have own := ho t ht
  -- a chain meets a child of s once, and never behind s
  have no : ∀ i c : Nat, c < C → m (19 + 4 * c) = s → itP m i s = some c → s < C → False := by
    intro i c hc hcs hi hs
    have := (itP_le hp i s c hs hi).1
    have := hp c hc
    omega
  have key : ∀ i j c c' : Nat, i ≤ j → c < C → c' < C → m (19 + 4 * c) = s → m (19 + 4 * c') = s → 0 ≤ m (259 + 14 * t) → itP m i (m (259 + 14 * t)).toNat = some c → itP m j (m (259 + 14 * t)).toNat = some c' → c = c' := by
    intro i j c c' hij hc hc' hcs hcs' h0 hi hj
    have ha := itP_add i (j - i) _ c hi
    rw [show i + (j - i) = j by omega, hj] at ha
    cases hk : j - i with
    | zero =>
      rw [hk] at ha
      have : some c' = some c := ha
      cases this; rfl
    | succ n =>
      rw [hk] at ha
      unfold itP at ha
      rw [if_pos (by omega), hcs] at ha
      have pc := hp c hc
      exact (no n c' hc' hcs' (by rw [ha]; rw [show ((s : Int)).toNat = s by omega]) (by omega)).elim
  rcases entP_c h with ⟨a1, a2, a3, a4⟩ | ⟨a1, a2, a3⟩ <;> rcases entP_c h' with ⟨b1, b2, b3, b4⟩ | ⟨b1, b2, b3⟩
  · rcases k with ⟨_, k⟩ | ⟨k, _⟩
    · rcases k' with ⟨_, k'⟩ | ⟨k', _⟩
      · omega
      · omega
    · omega
  · rcases k with ⟨_, k⟩ | ⟨k, _⟩
    · subst k
      rcases k' with ⟨k', _⟩ | ⟨_, k0, i, ki⟩
      · omega
      · rw [a4] at ki own
        exact (no i (e' - 100) (by omega) b3 (by rw [show ((s : Int)).toNat = s by omega] at ki; exact ki) (by omega)).elim
    · omega
  · rcases k' with ⟨_, k'⟩ | ⟨k', _⟩
    · subst k'
      rcases k with ⟨k, _⟩ | ⟨_, k0, i, ki⟩
      · omega
      · rw [b4] at ki own
        exact (no i (e - 100) (by omega) a3 (by rw [show ((s : Int)).toNat = s by omega] at ki; exact ki) (by omega)).elim
    · omega
  · rcases k with ⟨k, _⟩ | ⟨_, k0, i, ki⟩
    · omega
    · rcases k' with ⟨k', _⟩ | ⟨_, k0', j, kj⟩
      · omega
      · by_cases z : i ≤ j
        · have := key i j _ _ z (by omega) (by omega) a3 b3 k0 ki kj
          omega
        · have := key j i _ _ (by omega) (by omega) (by omega) b3 a3 k0 kj ki
          omega
/-- held, and in a scope by an entry with an elder stamp -/
def via (m : Nat → Int) (N C s : Nat) (st : Int) (t : Nat) : Prop := m (258 + 14 * t) = 0 ∧ ∃ e : Nat, e < 160 ∧ entryP m N C s e ∧ stampV m e < st ∧ inE m t e
noncomputable def viaN (m : Nat → Int) (N C s : Nat) (st : Int) : Int := cnt (fun t => bP (via m N C s st t)) N
noncomputable def inN (m : Nat → Int) (N e : Nat) : Int := cnt (fun t => bP (m (258 + 14 * t) = 0 ∧ inE m t e)) N
noncomputable def ahN (m : Nat → Int) (N C s : Nat) (st : Int) : Int := cnt (fun e => bP (entryP m N C s e ∧ stampV m e < st)) 160
theorem via_split (hp : parI m C) (ho : ∀ t : Nat, t < N → m (259 + 14 * t) < C) {s e : Nat} {st : Int} (he : e < 160) (h : entryP m N C s e) (hst : stampV m e < st) : viaN m N C s (stampV m e) + inN m N e ≤ viaN m N C s st := by
  refine cnt_add N (fun t ht z => ?_) (fun t ht z => ?_) (fun t ht z w => ?_)
  · rw [bP_t] at z ⊢
    obtain ⟨z1, e', z2, z3, z4, z5⟩ := z
    exact ⟨z1, e', z2, z3, by omega, z5⟩
  · rw [bP_t] at z ⊢
    exact ⟨z.1, e, he, h, hst, z.2⟩
  · rw [bP_t] at z w
    obtain ⟨z1, e', z2, z3, z4, z5⟩ := z
    have := inE_one hp ho ht z3 h z5 w.2
    subst this
    omega
theorem via_in (hp : parI m C) (ho : ∀ t : Nat, t < N → 0 ≤ m (259 + 14 * t) ∧ m (259 + 14 * t) < C) {c : Nat} {st : Int} : viaN m N C c st ≤ inN m N (100 + c) := by
  refine cnt_le N (fun t ht z => ?_)
  rw [bP_t] at z ⊢
  obtain ⟨z1, e, z2, z3, z4, z5⟩ := z
  have own := ho t ht
  refine ⟨z1, Or.inr ⟨by omega, own.1, ?_⟩⟩
  rw [show 100 + c - 100 = c by omega]
  rcases entP_c z3 with ⟨a1, a2, a3, a4⟩ | ⟨a1, a2, a3⟩
  · rcases z5 with ⟨_, k⟩ | ⟨k, _⟩
    · subst k
      exact ⟨0, by rw [a4]; rfl⟩
    · omega
  · rcases z5 with ⟨k, _⟩ | ⟨_, k0, i, ki⟩
    · omega
    · refine ⟨i + 1, ?_⟩
      rw [itP_add i 1 _ _ ki]
      unfold itP
      rw [if_pos (by omega), a3]
      rfl
theorem ah_less {s e : Nat} {st : Int} (he : e < 160) (h : entryP m N C s e) (hst : stampV m e < st) : ahN m N C s (stampV m e) < ahN m N C s st := by
  have h1 : cnt (fun q => decide (q = e)) 160 = 1 := by
    have := cnt_upd (p := fun _ => false) (p' := fun q => decide (q = e)) (t := e) (M := 160) rfl (by simp) (fun q _ hq => by simp [hq]) 160 (Nat.le_refl _)
    rw [if_pos he] at this
    have z : ∀ n, cnt (fun _ => false) n = 0 := by
      intro n
      induction n with
      | zero => rfl
      | succ n ih => rw [cnt_S, ih]; rfl
    rw [z] at this
    omega
  have := cnt_add (p1 := fun e' => bP (entryP m N C s e' ∧ stampV m e' < stampV m e)) (p2 := fun q => decide (q = e)) (p := fun e' => bP (entryP m N C s e' ∧ stampV m e' < st)) 160 (fun t _ z => by rw [bP_t] at z ⊢; exact ⟨z.1, by omega⟩) (fun t _ z => by
      rw [decide_eq_true_eq] at z
      subst z
      rw [bP_t]; exact ⟨h, hst⟩) (fun t _ z w => by
      rw [decide_eq_true_eq] at w
      subst w
      rw [bP_t] at z
      omega)
  unfold ahN
  omega
theorem eaL_p {a st : Int} : ∀ (n e : Nat) (f : Int), (f = -5 ∨ ∃ u : Nat, f = u ∧ u < e ∧ entryP m N C a u ∧ stampV m u < st) → (eaL m N C a st n e f = -5 ∨ ∃ u : Nat, eaL m N C a st n e f = u ∧ u < e + n ∧ entryP m N C a u ∧ stampV m u < st)
  | 0, e, f, h => h
  | n + 1, e, f, h => by
    unfold eaL
    rw [show e + (n + 1) = e + 1 + n by omega]
    refine eaL_p n (e + 1) _ ?_
    split
    · rename_i c
      exact Or.inr ⟨e, rfl, by omega, c.1, c.2.1⟩
    · rcases h with h | ⟨u, a1, a2, a3⟩
      · exact Or.inl h
      · exact Or.inr ⟨u, a1, by omega, a3⟩
theorem stampI_V {e : Nat} : stampI m (e : Int) = stampV m e := by
  unfold stampI stampV
  by_cases c : e < 100
  · rw [if_pos c, if_pos (by omega)]; congr 1 <;> omega
  · rw [if_neg c, if_neg (by omega)]; congr 1 <;> omega
end PL
set_option maxRecDepth 100000 in
theorem pl_loop {m : Nat → Int} (hN : 0 ≤ m 1 ∧ m 1 ≤ 90) (hC : 0 ≤ m 0 ∧ m 0 ≤ 60) (hp : parI m (m 0).toNat) (ho : ∀ t : Nat, t < (m 1).toNat → 0 ≤ m (259 + 14 * t) ∧ m (259 + 14 * t) < (m 0).toNat) {n s : Nat}
    (hS : ∀ (c : Nat) (p : Nat → Int) (k : Nat), s < c → (c : Int) < m 0 → (k : Int) + viaN m (m 1).toNat (m 0).toNat c (m 6 + 1) ≤ 90 → ∃ p' k', plR m n c p k p' k' ∧ (k' : Int) ≤ k + viaN m (m 1).toNat (m 0).toNat c (m 6 + 1)) :
    ∀ (J : Nat) (st : Int) (p : Nat → Int) (k : Nat), ahN m (m 1).toNat (m 0).toNat s st ≤ J → (k : Int) + viaN m (m 1).toNat (m 0).toNat s st ≤ 90 → ∃ j p' k', plLR (plR m n) m s j (eaI m s st) p k p' k' ∧ (k' : Int) ≤ k + viaN m (m 1).toNat (m 0).toNat s st
  | J, st, p, k, hJ, hk => by
    have vn := (cnt_r (fun t => bP (via m (m 1).toNat (m 0).toNat s st t)) (m 1).toNat).1
    have ho' : ∀ t : Nat, t < (m 1).toNat → m (259 + 14 * t) < (m 0).toNat := fun t ht => (ho t ht).2
    have he := eaL_p (m := m) (N := (m 1).toNat) (C := (m 0).toNat) (a := (s : Int)) (st := st) 160 0 (-5) (Or.inl rfl)
    have ed : eaI m s st = eaL m (m 1).toNat (m 0).toNat s st 160 0 (-5) := rfl
    rw [← ed] at he
    rcases he with he | ⟨u, he, hu, h1, h2⟩
    · exact ⟨0, p, k, ⟨by omega, rfl, rfl⟩, by unfold viaN; omega⟩
    · have hu160 : u < 160 := by omega
      have sp := via_split hp ho' hu160 h1 h2
      have al := ah_less hu160 h1 h2
      have an := (cnt_r (fun e => bP (entryP m (m 1).toNat (m 0).toNat s e ∧ stampV m e < stampV m u)) 160).1
      have an2 : 0 ≤ ahN m (m 1).toNat (m 0).toNat s (stampV m u) := an
      have vn2 : 0 ≤ viaN m (m 1).toNat (m 0).toNat s (stampV m u) := (cnt_r _ _).1
      have est : stampI m (eaI m s st) = stampV m u := by rw [he]; exact stampI_V
      cases J with
      | zero => omega
      | succ J =>
        rcases entP_c h1 with ⟨a1, a2, a3, a4⟩ | ⟨a1, a2, a3⟩
        · have one : 1 ≤ inN m (m 1).toNat u := by
            have c1 : cnt (fun q => decide (q = u)) (m 1).toNat = 1 := by
              have := cnt_upd (p := fun _ => false) (p' := fun q => decide (q = u)) (t := u) (M := (m 1).toNat) rfl (by simp) (fun q _ hq => by simp [hq]) (m 1).toNat (Nat.le_refl _)
              rw [if_pos a2] at this
              have z : ∀ n, cnt (fun _ => false) n = 0 := by
                intro n
                induction n with
                | zero => rfl
                | succ n ih => rw [cnt_S, ih]; rfl
              rw [z] at this
              omega
            have := cnt_le (p1 := fun q => decide (q = u)) (p := fun t => bP (m (258 + 14 * t) = 0 ∧ inE m t u)) (m 1).toNat (fun t _ z => by
              rw [decide_eq_true_eq] at z
              subst z
              rw [bP_t]; exact ⟨a3, Or.inl ⟨a1, rfl⟩⟩)
            unfold inN
            omega
          obtain ⟨j, p', k', r1, r2⟩ := pl_loop hN hC hp ho hS J (stampV m u) (updI p k (eaI m s st)) (k + 1) (by omega) (by omega)
          exact ⟨j + 1, p', k', Or.inr (Or.inl ⟨by omega, by omega, by rw [est]; exact r1⟩), by omega⟩
        · have pc := hp (u - 100) (by omega)
          have vi := via_in (m := m) (N := (m 1).toNat) (C := (m 0).toNat) hp ho (c := u - 100) (st := m 6 + 1)
          rw [show 100 + (u - 100) = u by omega] at vi
          obtain ⟨p1, k1, q1, q2⟩ := hS (u - 100) p k (by omega) (by omega) (by omega)
          obtain ⟨j, p', k', r1, r2⟩ := pl_loop hN hC hp ho hS J (stampV m u) p1 k1 (by omega) (by omega)
          exact ⟨j + 1, p', k', Or.inr (Or.inr ⟨by omega, p1, k1, by rw [he, show (u : Int) - 100 = ((u - 100 : Nat) : Int) by omega]; exact q1, by rw [est]; exact r1⟩), by omega⟩
theorem pl_ex {m : Nat → Int} (hN : 0 ≤ m 1 ∧ m 1 ≤ 90) (hC : 0 ≤ m 0 ∧ m 0 ≤ 60) (hp : parI m (m 0).toNat) (ho : ∀ t : Nat, t < (m 1).toNat → 0 ≤ m (259 + 14 * t) ∧ m (259 + 14 * t) < (m 0).toNat) : ∀ (n s : Nat) (p : Nat → Int) (k : Nat), 61 ≤ n + s → (s : Int) < m 0 → (k : Int) + viaN m (m 1).toNat (m 0).toNat s (m 6 + 1) ≤ 90 → ∃ p' k', plR m n s p k p' k' ∧ (k' : Int) ≤ k + viaN m (m 1).toNat (m 0).toNat s (m 6 + 1)
  | 0, s, p, k, h, hs, hk => by omega
  | n + 1, s, p, k, h, hs, hk => by
    have ar := (cnt_r (fun e => bP (entryP m (m 1).toNat (m 0).toNat s e ∧ stampV m e < m 6 + 1)) 160).2
    obtain ⟨j, p', k', r1, r2⟩ := pl_loop hN hC hp ho (n := n) (s := s) (fun c p k hc hc2 hk => pl_ex hN hC hp ho n c p k (by omega) hc2 hk) 160 (m 6 + 1) p k (by unfold ahN; exact ar) hk
    exact ⟨p', k', ⟨j, r1⟩, r2⟩
theorem all_plan {m pool : Nat → Int} {B T a : Int} (h : All m pool B T) (ha : 0 ≤ a ∧ a ≤ m 0 - 1) (p : Nat → Int) : ∃ p' k', plR m 61 a p 0 p' k' ∧ k' ≤ 90 := by
  have k0 := h.1.1.1.2.1
  have k1 := h.1.1.1.2.2.1
  obtain ⟨s1, s2, s3⟩ := h.1.2.1
  have hv : viaN m (m 1).toNat (m 0).toNat a.toNat (m 6 + 1) ≤ 90 := by
    have := (cnt_r (fun t => bP (via m (m 1).toNat (m 0).toNat a.toNat (m 6 + 1) t)) (m 1).toNat).2
    unfold viaN
    omega
  obtain ⟨p', k', r1, r2⟩ := pl_ex k1 k0 (fun c hc => by
    by_cases z : c = 0
    · subst z
      rw [show 19 + 4 * 0 = 19 from rfl, s1]; decide
    · exact ((s3 c (by omega)).2 (by omega)).1.2) (fun t ht => by
    have := (h.1.1.2.2.1 t (by omega)).2.1
    exact ⟨this.1, by omega⟩) 61 a.toNat p 0 (by omega) (by omega) (by omega)
  rw [show ((a.toNat : Nat) : Int) = a by omega] at r1
  exact ⟨p', k', r1, by omega⟩
/-! numbers in a text, for spelling -/
theorem min_num {sr : Nat → Int} {p e k : Nat} (h : numS sr p e k) {j : Nat} (h1 : p ≤ j) (h2 : j < e) : ¬ sr j = 45 := by
  have := h.2.2 j h1 h2
  unfold dgP at this; omega
theorem min_nam {sr : Nat → Int} {p e : Nat} (h : namS sr p e) {j : Nat} (h1 : p ≤ j) (h2 : j < e) : ¬ sr j = 45 := by
  have := h.2.2.1 j h1 h2
  unfold isLt at this; omega
def minP (sr : Nat → Int) (p : Nat) : Prop := sr p = 45 → stopsBy sr 20 (p + 1) ∧ InR (numAt sr 20 p)
theorem min_sgn {sr : Nat → Int} {p e : Nat} (h : sgnS sr p e) (he : ¬ dgP (sr e)) {j : Nat} (h1 : p ≤ j) (h2 : j < e) : minP sr j := by
  intro z
  obtain ⟨⟨_, d1⟩, d2⟩ := sgn_dig h he
  rcases h with ⟨h3, h4⟩ | h
  · by_cases c : j = p
    · subst c
      rw [if_pos h3] at d1
      exact ⟨d1, ⟨by omega, by omega⟩⟩
    · exact absurd z (min_num h4 (by omega) h2)
  · exact absurd z (min_num h h1 h2)
theorem min_T {sr : Nat → Int} {steps : Nat → Nat → Prop} (hs : ∀ a b, steps a b → ∀ j, a ≤ j → j < b → minP sr j) {p e : Nat} (h : stepT sr steps p e) (he : ¬ dgP (sr e)) {j : Nat} (h1 : p ≤ j) (h2 : j < e) : minP sr j := by
  intro z
  rcases h with ⟨k1, k2, k3, k4⟩ | ⟨k1, k2⟩ | ⟨k1, q, k2, k3⟩ | ⟨k1, k2⟩ | ⟨k1, q, k2, k3, k4⟩ | ⟨k1, k2, k3⟩ | ⟨k1, k2⟩
  · by_cases c : p + 3 ≤ j
    · exact min_sgn k4 he c h2 z
    · have : j = p ∨ j = p + 1 ∨ j = p + 2 := by omega
      rcases this with rfl | rfl | rfl <;> omega
  · by_cases c : p + 1 ≤ j
    · exact absurd z (min_num k2 c h2)
    · have : j = p := by omega
      subst this; omega
  · have hq := k2.1
    by_cases c : j < q
    · by_cases c2 : p + 1 ≤ j
      · exact absurd z (min_nam k2 c2 c)
      · have : j = p := by omega
        subst this; omega
    · rcases k3 with ⟨rfl, _⟩ | ⟨k3, r, k4, k5, k6, rfl⟩
      · omega
      · by_cases c2 : j = q
        · subst c2; omega
        · by_cases c3 : j = r
          · subst c3; omega
          · exact hs _ _ k4 j (by omega) (by omega) z
  · by_cases c : p + 1 ≤ j
    · exact absurd z (min_nam k2 c h2)
    · have : j = p := by omega
      subst this; omega
  · have hq := k2.1
    by_cases c : j < q
    · by_cases c2 : p + 1 ≤ j
      · exact absurd z (min_nam k2 c2 c)
      · have : j = p := by omega
        subst this; omega
    · by_cases c2 : j = q
      · subst c2; omega
      · exact absurd z (min_num k4 (by omega) h2)
  · have : j = p ∨ j = p + 1 := by omega
    unfold dgP at k2
    rcases this with rfl | rfl <;> omega
  · have : j = p := by omega
    subst this; omega
theorem min_Q {sr : Nat → Int} {steps : Nat → Nat → Prop} (hs : ∀ a b, steps a b → ∀ j, a ≤ j → j < b → minP sr j) {p e : Nat} (h : stepQ sr steps p e) (he : ¬ dgP (sr e)) {j : Nat} (h1 : p ≤ j) (h2 : j < e) : minP sr j := by
  rcases h with h | ⟨k1, k2, k3, q, k4, k5, k6⟩
  · exact min_T hs h he h1 h2
  · intro z
    by_cases c : q + 1 ≤ j
    · exact min_T hs k6 he c h2 z
    · by_cases c2 : j = q
      · subst c2; omega
      · by_cases c3 : p + 3 ≤ j
        · exact min_sgn k4 (by rw [k5]; decide) c3 (by omega) z
        · have : j = p ∨ j = p + 1 ∨ j = p + 2 := by omega
          rcases this with rfl | rfl | rfl <;> omega
theorem min_C {sr : Nat → Int} : ∀ (n p E : Nat), stsC sr n p E → ∀ j, p ≤ j → j < E → minP sr j
  | 0, _, _, h => absurd h id
  | n + 1, p, E, h => by
    obtain ⟨e, k1, k2, k3⟩ := h
    intro j h1 h2
    by_cases c : j < e
    · exact min_Q (fun a b => min_C n a b) k1 (endC_nd k2) h1 c
    · rcases k3 with rfl | ⟨k3, k4, k5⟩
      · omega
      · by_cases c2 : j = e
        · subst c2; intro z; omega
        · exact min_C n _ _ k5 j (by omega) h2
theorem min_K {sr : Nat → Int} : ∀ (n o p E : Nat), stsT sr n o p E → ∀ j, p ≤ j → j < E → minP sr j
  | 0, _, _, _, h => absurd h id
  | n + 1, o, p, E, h => by
    obtain ⟨e, o', k1, k2, k3⟩ := h
    intro j h1 h2
    by_cases c : j < e
    · rcases k1 with ⟨k1, _⟩ | ⟨k1, rfl, _⟩ | ⟨k1, rfl, _⟩
      · exact min_Q (fun a b => min_C n a b) k1 (endC_nd k2) h1 c
      · have : j = p := by omega
        subst this; intro z; omega
      · have : j = p := by omega
        subst this; intro z; omega
    · rcases k3 with rfl | ⟨k3, k4, k5⟩
      · omega
      · by_cases c2 : j = e
        · subst c2; intro z; omega
        · exact min_K n _ _ _ k5 j (by omega) h2

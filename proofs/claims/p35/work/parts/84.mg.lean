section mg_84
/-! ===== every PLAN comes to its end ===== -/
noncomputable def bP (P : Prop) : Bool := @decide P (Classical.propDecidable P)
theorem bP_t {P : Prop} : bP P = true ↔ P := by unfold bP; simp
theorem cnt_add {p1 p2 p : Nat → Bool} : ∀ n : Nat, (∀ t, t < n → p1 t = true → p t = true) → (∀ t, t < n → p2 t = true → p t = true) → (∀ t, t < n → p1 t = true → p2 t = true → False) → cnt p1 n + cnt p2 n ≤ cnt p n
  | 0, _, _, _ => Int.le_refl _
  | n + 1, h1, h2, h3 => by
    have ih := cnt_add n (fun t ht => h1 t (by omega)) (fun t ht => h2 t (by omega)) (fun t ht => h3 t (by omega))
    rw [cnt_S, cnt_S, cnt_S]
    cases a : p1 n <;> cases b : p2 n
    · simp only [Bool.false_eq_true, if_false]
      split <;> omega
    · have := h2 n (by omega) b
      rw [this]
      simp only [Bool.false_eq_true, if_false, if_true]
      omega
    · have := h1 n (by omega) a
      rw [this]
      simp only [Bool.false_eq_true, if_false, if_true]
      omega
    · exact (h3 n (by omega) a b).elim
theorem cnt_le {p1 p : Nat → Bool} (n : Nat) (h1 : ∀ t, t < n → p1 t = true → p t = true) : cnt p1 n ≤ cnt p n := by
  have := cnt_add (p1 := p1) (p2 := fun _ => false) (p := p) n h1 (fun t _ z => by cases z) (fun t _ _ z => by cases z)
  have z := (cnt_r (fun _ => false) n).1
  omega
/-- a scope's parent, so many times over -/
def itP (m : Nat → Int) : Nat → Nat → Option Nat
  | 0, a => some a
  | k + 1, a => if 0 ≤ m (19 + 4 * a) then itP m k (m (19 + 4 * a)).toNat else none
theorem itP_S {m : Nat → Int} {k a : Nat} : itP m (k + 1) a = if 0 ≤ m (19 + 4 * a) then itP m k (m (19 + 4 * a)).toNat else none := rfl
section PL
variable {m : Nat → Int} {N C : Nat}
def parI (m : Nat → Int) (C : Nat) : Prop := ∀ c : Nat, c < C → m (19 + 4 * c) < c
theorem itP_le (h : parI m C) : ∀ (k a c : Nat), a < C → itP m k a = some c → c ≤ a ∧ (1 ≤ k → c < a)
  | 0, a, c, ha, e => by
    have : a = c := by simpa [itP] using e
    omega
  | k + 1, a, c, ha, e => by
    unfold itP at e
    split at e
    · have hp := h a ha
      have := itP_le h k _ c (by omega) e
      omega
    · cases e
theorem itP_add : ∀ (i j a : Nat) (b : Nat), itP m i a = some b → itP m (i + j) a = itP m j b
  | 0, j, a, b, e => by
    have : a = b := by simpa [itP] using e
    subst this
    rw [Nat.zero_add]
  | i + 1, j, a, b, e => by
    rw [show i + 1 + j = (i + j) + 1 by omega, itP_S]
    rw [itP_S] at e
    split at e
    · rename_i g
      rw [if_pos g]
      exact itP_add i j _ b e
    · cases e
/-- a thing stands in an entry: it is it, or it is held in or below that scope -/
def inE (m : Nat → Int) (t e : Nat) : Prop := (e < 100 ∧ t = e) ∨ (100 ≤ e ∧ 0 ≤ m (259 + 14 * t) ∧ ∃ i, itP m i (m (259 + 14 * t)).toNat = some (e - 100))
theorem entP_c {s : Nat} {e : Nat} (h : entryP m N C s e) : (e < 100 ∧ e < N ∧ m (258 + 14 * e) = 0 ∧ m (259 + 14 * e) = s) ∨ (100 < e ∧ e < C + 100 ∧ m (19 + 4 * (e - 100)) = s) := by
  unfold entryP at h
  split at h
  · exact Or.inl ⟨by assumption, h⟩
  · exact Or.inr ⟨h.2.1, h.1, h.2.2.2⟩
theorem inE_one (hp : parI m C) (ho : ∀ t : Nat, t < N → m (259 + 14 * t) < C) {s t e e' : Nat} (ht : t < N) (h : entryP m N C s e) (h' : entryP m N C s e') (k : inE m t e) (k' : inE m t e') : e = e' := by
  have own := ho t ht
  -- a chain meets a child of s once, and never behind s
  have no : ∀ i c : Nat, c < C → m (19 + 4 * c) = s → itP m i s = some c → s < C → False := by
    intro i c hc hcs hi hs
    have := (itP_le hp i s c hs hi).1
    have := hp c hc
    omega
  have key : ∀ i j c c' : Nat, i ≤ j → c < C → c' < C → m (19 + 4 * c) = s → m (19 + 4 * c') = s → 0 ≤ m (259 + 14 * t) → itP m i (m (259 + 14 * t)).toNat = some c → itP m j (m (259 + 14 * t)).toNat = some c' → c = c' := by
    intro i j c c' hij hc hc' hcs hcs' h0 hi hj
    have ha := itP_add i (j - i) _ c hi
    rw [show i + (j - i) = j by omega, hj] at ha
    cases hk : j - i with
    | zero =>
      rw [hk] at ha
      have : some c' = some c := ha
      cases this; rfl
    | succ n =>
      rw [hk] at ha
      unfold itP at ha
      rw [if_pos (by omega), hcs] at ha
      have pc := hp c hc
      exact (no n c' hc' hcs' (by rw [ha]; rw [show ((s : Int)).toNat = s by omega]) (by omega)).elim
  rcases entP_c h with ⟨a1, a2, a3, a4⟩ | ⟨a1, a2, a3⟩ <;> rcases entP_c h' with ⟨b1, b2, b3, b4⟩ | ⟨b1, b2, b3⟩
  · rcases k with ⟨_, k⟩ | ⟨k, _⟩
    · rcases k' with ⟨_, k'⟩ | ⟨k', _⟩
      · omega
      · omega
    · omega
  · rcases k with ⟨_, k⟩ | ⟨k, _⟩
    · subst k
      rcases k' with ⟨k', _⟩ | ⟨_, k0, i, ki⟩
      · omega
      · rw [a4] at ki own
        exact (no i (e' - 100) (by omega) b3 (by rw [show ((s : Int)).toNat = s by omega] at ki; exact ki) (by omega)).elim
    · omega
  · rcases k' with ⟨_, k'⟩ | ⟨k', _⟩
    · subst k'
      rcases k with ⟨k, _⟩ | ⟨_, k0, i, ki⟩
      · omega
      · rw [b4] at ki own
        exact (no i (e - 100) (by omega) a3 (by rw [show ((s : Int)).toNat = s by omega] at ki; exact ki) (by omega)).elim
    · omega
  · rcases k with ⟨k, _⟩ | ⟨_, k0, i, ki⟩
    · omega
    · rcases k' with ⟨k', _⟩ | ⟨_, k0', j, kj⟩
      · omega
      · by_cases z : i ≤ j
        · have := key i j _ _ z (by omega) (by omega) a3 b3 k0 ki kj
          omega
        · have := key j i _ _ (by omega) (by omega) (by omega) b3 a3 k0 kj ki
          omega
/-- held, and in a scope by an entry with an elder stamp -/
def via (m : Nat → Int) (N C s : Nat) (st : Int) (t : Nat) : Prop := m (258 + 14 * t) = 0 ∧ ∃ e : Nat, e < 160 ∧ entryP m N C s e ∧ stampV m e < st ∧ inE m t e
noncomputable def viaN (m : Nat → Int) (N C s : Nat) (st : Int) : Int := cnt (fun t => bP (via m N C s st t)) N
noncomputable def inN (m : Nat → Int) (N e : Nat) : Int := cnt (fun t => bP (m (258 + 14 * t) = 0 ∧ inE m t e)) N
noncomputable def ahN (m : Nat → Int) (N C s : Nat) (st : Int) : Int := cnt (fun e => bP (entryP m N C s e ∧ stampV m e < st)) 160
theorem via_split (hp : parI m C) (ho : ∀ t : Nat, t < N → m (259 + 14 * t) < C) {s e : Nat} {st : Int} (he : e < 160) (h : entryP m N C s e) (hst : stampV m e < st) : viaN m N C s (stampV m e) + inN m N e ≤ viaN m N C s st := by
  refine cnt_add N (fun t ht z => ?_) (fun t ht z => ?_) (fun t ht z w => ?_)
  · rw [bP_t] at z ⊢
    obtain ⟨z1, e', z2, z3, z4, z5⟩ := z
    exact ⟨z1, e', z2, z3, by omega, z5⟩
  · rw [bP_t] at z ⊢
    exact ⟨z.1, e, he, h, hst, z.2⟩
  · rw [bP_t] at z w
    obtain ⟨z1, e', z2, z3, z4, z5⟩ := z
    have := inE_one hp ho ht z3 h z5 w.2
    subst this
    omega
theorem via_in (hp : parI m C) (ho : ∀ t : Nat, t < N → 0 ≤ m (259 + 14 * t) ∧ m (259 + 14 * t) < C) {c : Nat} {st : Int} : viaN m N C c st ≤ inN m N (100 + c) := by
  refine cnt_le N (fun t ht z => ?_)
  rw [bP_t] at z ⊢
  obtain ⟨z1, e, z2, z3, z4, z5⟩ := z
  have own := ho t ht
  refine ⟨z1, Or.inr ⟨by omega, own.1, ?_⟩⟩
  rw [show 100 + c - 100 = c by omega]
  rcases entP_c z3 with ⟨a1, a2, a3, a4⟩ | ⟨a1, a2, a3⟩
  · rcases z5 with ⟨_, k⟩ | ⟨k, _⟩
    · subst k
      exact ⟨0, by rw [a4]; rfl⟩
    · omega
  · rcases z5 with ⟨k, _⟩ | ⟨_, k0, i, ki⟩
    · omega
    · refine ⟨i + 1, ?_⟩
      rw [itP_add i 1 _ _ ki]
      unfold itP
      rw [if_pos (by omega), a3]
      rfl
theorem ah_less {s e : Nat} {st : Int} (he : e < 160) (h : entryP m N C s e) (hst : stampV m e < st) : ahN m N C s (stampV m e) < ahN m N C s st := by
  have h1 : cnt (fun q => decide (q = e)) 160 = 1 := by
    have := cnt_upd (p := fun _ => false) (p' := fun q => decide (q = e)) (t := e) (M := 160) rfl (by simp) (fun q _ hq => by simp [hq]) 160 (Nat.le_refl _)
    rw [if_pos he] at this
    have z : ∀ n, cnt (fun _ => false) n = 0 := by
      intro n
      induction n with
      | zero => rfl
      | succ n ih => rw [cnt_S, ih]; rfl
    rw [z] at this
    omega
  have := cnt_add (p1 := fun e' => bP (entryP m N C s e' ∧ stampV m e' < stampV m e)) (p2 := fun q => decide (q = e)) (p := fun e' => bP (entryP m N C s e' ∧ stampV m e' < st)) 160 (fun t _ z => by rw [bP_t] at z ⊢; exact ⟨z.1, by omega⟩) (fun t _ z => by
      rw [decide_eq_true_eq] at z
      subst z
      rw [bP_t]; exact ⟨h, hst⟩) (fun t _ z w => by
      rw [decide_eq_true_eq] at w
      subst w
      rw [bP_t] at z
      omega)
  unfold ahN
  omega
theorem eaL_p {a st : Int} : ∀ (n e : Nat) (f : Int), (f = -5 ∨ ∃ u : Nat, f = u ∧ u < e ∧ entryP m N C a u ∧ stampV m u < st) → (eaL m N C a st n e f = -5 ∨ ∃ u : Nat, eaL m N C a st n e f = u ∧ u < e + n ∧ entryP m N C a u ∧ stampV m u < st)
  | 0, e, f, h => h
  | n + 1, e, f, h => by
    unfold eaL
    rw [show e + (n + 1) = e + 1 + n by omega]
    refine eaL_p n (e + 1) _ ?_
    split
    · rename_i c
      exact Or.inr ⟨e, rfl, by omega, c.1, c.2.1⟩
    · rcases h with h | ⟨u, a1, a2, a3⟩
      · exact Or.inl h
      · exact Or.inr ⟨u, a1, by omega, a3⟩
theorem stampI_V {e : Nat} : stampI m (e : Int) = stampV m e := by
  unfold stampI stampV
  by_cases c : e < 100
  · rw [if_pos c, if_pos (by omega)]; congr 1 <;> omega
  · rw [if_neg c, if_neg (by omega)]; congr 1 <;> omega
end PL
set_option maxRecDepth 100000 in
theorem pl_loop {m : Nat → Int} (hN : 0 ≤ m 1 ∧ m 1 ≤ 90) (hC : 0 ≤ m 0 ∧ m 0 ≤ 60) (hp : parI m (m 0).toNat) (ho : ∀ t : Nat, t < (m 1).toNat → 0 ≤ m (259 + 14 * t) ∧ m (259 + 14 * t) < (m 0).toNat) {n s : Nat}
    (hS : ∀ (c : Nat) (p : Nat → Int) (k : Nat), s < c → (c : Int) < m 0 → (k : Int) + viaN m (m 1).toNat (m 0).toNat c (m 6 + 1) ≤ 90 → ∃ p' k', plR m n c p k p' k' ∧ (k' : Int) ≤ k + viaN m (m 1).toNat (m 0).toNat c (m 6 + 1)) :
    ∀ (J : Nat) (st : Int) (p : Nat → Int) (k : Nat), ahN m (m 1).toNat (m 0).toNat s st ≤ J → (k : Int) + viaN m (m 1).toNat (m 0).toNat s st ≤ 90 → ∃ j p' k', plLR (plR m n) m s j (eaI m s st) p k p' k' ∧ (k' : Int) ≤ k + viaN m (m 1).toNat (m 0).toNat s st
  | J, st, p, k, hJ, hk => by
    have vn := (cnt_r (fun t => bP (via m (m 1).toNat (m 0).toNat s st t)) (m 1).toNat).1
    have ho' : ∀ t : Nat, t < (m 1).toNat → m (259 + 14 * t) < (m 0).toNat := fun t ht => (ho t ht).2
    have he := eaL_p (m := m) (N := (m 1).toNat) (C := (m 0).toNat) (a := (s : Int)) (st := st) 160 0 (-5) (Or.inl rfl)
    have ed : eaI m s st = eaL m (m 1).toNat (m 0).toNat s st 160 0 (-5) := rfl
    rw [← ed] at he
    rcases he with he | ⟨u, he, hu, h1, h2⟩
    · exact ⟨0, p, k, ⟨by omega, rfl, rfl⟩, by unfold viaN; omega⟩
    · have hu160 : u < 160 := by omega
      have sp := via_split hp ho' hu160 h1 h2
      have al := ah_less hu160 h1 h2
      have an := (cnt_r (fun e => bP (entryP m (m 1).toNat (m 0).toNat s e ∧ stampV m e < stampV m u)) 160).1
      have an2 : 0 ≤ ahN m (m 1).toNat (m 0).toNat s (stampV m u) := an
      have vn2 : 0 ≤ viaN m (m 1).toNat (m 0).toNat s (stampV m u) := (cnt_r _ _).1
      have est : stampI m (eaI m s st) = stampV m u := by rw [he]; exact stampI_V
      cases J with
      | zero => omega
      | succ J =>
        rcases entP_c h1 with ⟨a1, a2, a3, a4⟩ | ⟨a1, a2, a3⟩
        · have one : 1 ≤ inN m (m 1).toNat u := by
            have c1 : cnt (fun q => decide (q = u)) (m 1).toNat = 1 := by
              have := cnt_upd (p := fun _ => false) (p' := fun q => decide (q = u)) (t := u) (M := (m 1).toNat) rfl (by simp) (fun q _ hq => by simp [hq]) (m 1).toNat (Nat.le_refl _)
              rw [if_pos a2] at this
              have z : ∀ n, cnt (fun _ => false) n = 0 := by
                intro n
                induction n with
                | zero => rfl
                | succ n ih => rw [cnt_S, ih]; rfl
              rw [z] at this
              omega
            have := cnt_le (p1 := fun q => decide (q = u)) (p := fun t => bP (m (258 + 14 * t) = 0 ∧ inE m t u)) (m 1).toNat (fun t _ z => by
              rw [decide_eq_true_eq] at z
              subst z
              rw [bP_t]; exact ⟨a3, Or.inl ⟨a1, rfl⟩⟩)
            unfold inN
            omega
          obtain ⟨j, p', k', r1, r2⟩ := pl_loop hN hC hp ho hS J (stampV m u) (updI p k (eaI m s st)) (k + 1) (by omega) (by omega)
          exact ⟨j + 1, p', k', Or.inr (Or.inl ⟨by omega, by omega, by rw [est]; exact r1⟩), by omega⟩
        · have pc := hp (u - 100) (by omega)
          have vi := via_in (m := m) (N := (m 1).toNat) (C := (m 0).toNat) hp ho (c := u - 100) (st := m 6 + 1)
          rw [show 100 + (u - 100) = u by omega] at vi
          obtain ⟨p1, k1, q1, q2⟩ := hS (u - 100) p k (by omega) (by omega) (by omega)
          obtain ⟨j, p', k', r1, r2⟩ := pl_loop hN hC hp ho hS J (stampV m u) p1 k1 (by omega) (by omega)
          exact ⟨j + 1, p', k', Or.inr (Or.inr ⟨by omega, p1, k1, by rw [he, show (u : Int) - 100 = ((u - 100 : Nat) : Int) by omega]; exact q1, by rw [est]; exact r1⟩), by omega⟩
theorem pl_ex {m : Nat → Int} (hN : 0 ≤ m 1 ∧ m 1 ≤ 90) (hC : 0 ≤ m 0 ∧ m 0 ≤ 60) (hp : parI m (m 0).toNat) (ho : ∀ t : Nat, t < (m 1).toNat → 0 ≤ m (259 + 14 * t) ∧ m (259 + 14 * t) < (m 0).toNat) : ∀ (n s : Nat) (p : Nat → Int) (k : Nat), 61 ≤ n + s → (s : Int) < m 0 → (k : Int) + viaN m (m 1).toNat (m 0).toNat s (m 6 + 1) ≤ 90 → ∃ p' k', plR m n s p k p' k' ∧ (k' : Int) ≤ k + viaN m (m 1).toNat (m 0).toNat s (m 6 + 1)
  | 0, s, p, k, h, hs, hk => by omega
  | n + 1, s, p, k, h, hs, hk => by
    have ar := (cnt_r (fun e => bP (entryP m (m 1).toNat (m 0).toNat s e ∧ stampV m e < m 6 + 1)) 160).2
    obtain ⟨j, p', k', r1, r2⟩ := pl_loop hN hC hp ho (n := n) (s := s) (fun c p k hc hc2 hk => pl_ex hN hC hp ho n c p k (by omega) hc2 hk) 160 (m 6 + 1) p k (by unfold ahN; exact ar) hk
    exact ⟨p', k', ⟨j, r1⟩, r2⟩
theorem all_plan {m pool : Nat → Int} {B T a : Int} (h : All m pool B T) (ha : 0 ≤ a ∧ a ≤ m 0 - 1) (p : Nat → Int) : ∃ p' k', plR m 61 a p 0 p' k' ∧ k' ≤ 90 := by
  have k0 := h.1.1.1.2.1
  have k1 := h.1.1.1.2.2.1
  obtain ⟨s1, s2, s3⟩ := h.1.2.1
  have hv : viaN m (m 1).toNat (m 0).toNat a.toNat (m 6 + 1) ≤ 90 := by
    have := (cnt_r (fun t => bP (via m (m 1).toNat (m 0).toNat a.toNat (m 6 + 1) t)) (m 1).toNat).2
    unfold viaN
    omega
  obtain ⟨p', k', r1, r2⟩ := pl_ex k1 k0 (fun c hc => by
    by_cases z : c = 0
    · subst z
      rw [show 19 + 4 * 0 = 19 from rfl, s1]; decide
    · exact ((s3 c (by omega)).2 (by omega)).1.2) (fun t ht => by
    have := (h.1.1.2.2.1 t (by omega)).2.1
    exact ⟨this.1, by omega⟩) 61 a.toNat p 0 (by omega) (by omega) (by omega)
  rw [show ((a.toNat : Nat) : Int) = a by omega] at r1
  exact ⟨p', k', r1, by omega⟩
/-! numbers in a text, for spelling -/
theorem min_num {sr : Nat → Int} {p e k : Nat} (h : numS sr p e k) {j : Nat} (h1 : p ≤ j) (h2 : j < e) : ¬ sr j = 45 := by
  have := h.2.2 j h1 h2
  unfold dgP at this; omega
theorem min_nam {sr : Nat → Int} {p e : Nat} (h : namS sr p e) {j : Nat} (h1 : p ≤ j) (h2 : j < e) : ¬ sr j = 45 := by
  have := h.2.2.1 j h1 h2
  unfold isLt at this; omega
def minP (sr : Nat → Int) (p : Nat) : Prop := sr p = 45 → stopsBy sr 20 (p + 1) ∧ InR (numAt sr 20 p)
theorem min_sgn {sr : Nat → Int} {p e : Nat} (h : sgnS sr p e) (he : ¬ dgP (sr e)) {j : Nat} (h1 : p ≤ j) (h2 : j < e) : minP sr j := by
  intro z
  obtain ⟨⟨_, d1⟩, d2⟩ := sgn_dig h he
  rcases h with ⟨h3, h4⟩ | h
  · by_cases c : j = p
    · subst c
      rw [if_pos h3] at d1
      exact ⟨d1, ⟨by omega, by omega⟩⟩
    · exact absurd z (min_num h4 (by omega) h2)
  · exact absurd z (min_num h h1 h2)
theorem min_T {sr : Nat → Int} {steps : Nat → Nat → Prop} (hs : ∀ a b, steps a b → ∀ j, a ≤ j → j < b → minP sr j) {p e : Nat} (h : stepT sr steps p e) (he : ¬ dgP (sr e)) {j : Nat} (h1 : p ≤ j) (h2 : j < e) : minP sr j := by
  intro z
  rcases h with ⟨k1, k2, k3, k4⟩ | ⟨k1, k2⟩ | ⟨k1, q, k2, k3⟩ | ⟨k1, k2⟩ | ⟨k1, q, k2, k3, k4⟩ | ⟨k1, k2, k3⟩ | ⟨k1, k2⟩
  · by_cases c : p + 3 ≤ j
    · exact min_sgn k4 he c h2 z
    · have : j = p ∨ j = p + 1 ∨ j = p + 2 := by omega
      rcases this with rfl | rfl | rfl <;> omega
  · by_cases c : p + 1 ≤ j
    · exact absurd z (min_num k2 c h2)
    · have : j = p := by omega
      subst this; omega
  · have hq := k2.1
    by_cases c : j < q
    · by_cases c2 : p + 1 ≤ j
      · exact absurd z (min_nam k2 c2 c)
      · have : j = p := by omega
        subst this; omega
    · rcases k3 with ⟨rfl, _⟩ | ⟨k3, r, k4, k5, k6, rfl⟩
      · omega
      · by_cases c2 : j = q
        · subst c2; omega
        · by_cases c3 : j = r
          · subst c3; omega
          · exact hs _ _ k4 j (by omega) (by omega) z
  · by_cases c : p + 1 ≤ j
    · exact absurd z (min_nam k2 c h2)
    · have : j = p := by omega
      subst this; omega
  · have hq := k2.1
    by_cases c : j < q
    · by_cases c2 : p + 1 ≤ j
      · exact absurd z (min_nam k2 c2 c)
      · have : j = p := by omega
        subst this; omega
    · by_cases c2 : j = q
      · subst c2; omega
      · exact absurd z (min_num k4 (by omega) h2)
  · have : j = p ∨ j = p + 1 := by omega
    unfold dgP at k2
    rcases this with rfl | rfl <;> omega
  · have : j = p := by omega
    subst this; omega
theorem min_Q {sr : Nat → Int} {steps : Nat → Nat → Prop} (hs : ∀ a b, steps a b → ∀ j, a ≤ j → j < b → minP sr j) {p e : Nat} (h : stepQ sr steps p e) (he : ¬ dgP (sr e)) {j : Nat} (h1 : p ≤ j) (h2 : j < e) : minP sr j := by
  rcases h with h | ⟨k1, k2, k3, q, k4, k5, k6⟩
  · exact min_T hs h he h1 h2
  · intro z
    by_cases c : q + 1 ≤ j
    · exact min_T hs k6 he c h2 z
    · by_cases c2 : j = q
      · subst c2; omega
      · by_cases c3 : p + 3 ≤ j
        · exact min_sgn k4 (by rw [k5]; decide) c3 (by omega) z
        · have : j = p ∨ j = p + 1 ∨ j = p + 2 := by omega
          rcases this with rfl | rfl | rfl <;> omega
theorem min_C {sr : Nat → Int} : ∀ (n p E : Nat), stsC sr n p E → ∀ j, p ≤ j → j < E → minP sr j
  | 0, _, _, h => absurd h id
  | n + 1, p, E, h => by
    obtain ⟨e, k1, k2, k3⟩ := h
    intro j h1 h2
    by_cases c : j < e
    · exact min_Q (fun a b => min_C n a b) k1 (endC_nd k2) h1 c
    · rcases k3 with rfl | ⟨k3, k4, k5⟩
      · omega
      · by_cases c2 : j = e
        · subst c2; intro z; omega
        · exact min_C n _ _ k5 j (by omega) h2
theorem min_K {sr : Nat → Int} : ∀ (n o p E : Nat), stsT sr n o p E → ∀ j, p ≤ j → j < E → minP sr j
  | 0, _, _, _, h => absurd h id
  | n + 1, o, p, E, h => by
    obtain ⟨e, o', k1, k2, k3⟩ := h
    intro j h1 h2
    by_cases c : j < e
    · rcases k1 with ⟨k1, _⟩ | ⟨k1, rfl, _⟩ | ⟨k1, rfl, _⟩
      · exact min_Q (fun a b => min_C n a b) k1 (endC_nd k2) h1 c
      · have : j = p := by omega
        subst this; intro z; omega
      · have : j = p := by omega
        subst this; intro z; omega
    · rcases k3 with rfl | ⟨k3, k4, k5⟩
      · omega
      · by_cases c2 : j = e
        · subst c2; intro z; omega
        · exact min_K n _ _ _ k5 j (by omega) h2
end mg_84
section mg_85
/-! ===== the class: what its world answers ===== -/
/-- every owner is a scope's number, or none -/
def oOk (c : Nat → Int) : Prop := ∀ i, -5 ≤ ownF c i ∧ ownF c i ≤ 59
theorem ownF_t {c : Nat → Int} {t : Nat} (h : (t : Int) < c 0) (h2 : t < 90) : ownF c t = c (33 + 3 * t) := by
  unfold ownF; rw [if_neg (by omega), if_pos ⟨by omega, h, by omega⟩]; congr 1
theorem ownF_s {c : Nat → Int} {s : Nat} (h : (s : Int) < c 1) (h2 : s < 60) : ownF c (100 + (s : Int)) = c (305 + 3 * s) := by
  unfold ownF; rw [if_pos (by omega), if_pos ⟨by omega, by omega, by omega⟩]; congr 1; omega
set_option maxHeartbeats 4000000 in
set_option maxRecDepth 100000 in
theorem cn_isHeld {G : mG} {l : Launch} (d : Nat) {h : mH} {w : Nat} {c : Nat → Int} {C : Nat → Nat → Int} {nm : Nat → Int64} {g : Nat → Option Nat} (hW : isW h w c C nm g) (hc : ∀ q, InR (c q)) {t : Nat} (ht : (t : Int) < c 0) (h2 : t < 90) : RUNM G l (d + 1) mX9_isHeld [.ref w, .int (J (t : Int))] h (fun v h' => v = some (.int (J (b01 (c (32 + 3 * t) = 0)))) ∧ h' = h) := by
  refine (cw_isHeld d hW hc (i := (t : Int)) ⟨by omega, by omega⟩).mono (fun v h' q => ⟨?_, q.2⟩)
  rw [q.1, show ((t : Int)).toNat = t by omega]
  by_cases z : c (32 + 3 * t) = 0
  · rw [b01_t z, b01_t ⟨⟨by omega, ht, by omega⟩, z⟩]
  · rw [b01_f z, b01_f (fun g => z g.2)]
set_option maxHeartbeats 4000000 in
set_option maxRecDepth 100000 in
theorem cn_isReady {G : mG} {l : Launch} (d : Nat) {h : mH} {w : Nat} {c : Nat → Int} {C : Nat → Nat → Int} {nm : Nat → Int64} {g : Nat → Option Nat} (hW : isW h w c C nm g) (hc : ∀ q, InR (c q)) {t : Nat} (ht : (t : Int) < c 2) (h2 : t < 10) : RUNM G l (d + 1) mX9_isReady [.ref w, .int (J (t : Int))] h (fun v h' => v = some (.int (J (b01 (c (489 + 9 * t) = 0)))) ∧ h' = h) := by
  refine (cw_isReady d hW hc (i := (t : Int)) ⟨by omega, by omega⟩).mono (fun v h' q => ⟨?_, q.2⟩)
  rw [q.1, show ((t : Int)).toNat = t by omega]
  by_cases z : c (489 + 9 * t) = 0
  · rw [b01_t z, b01_t ⟨⟨by omega, ht, by omega⟩, z⟩]
  · rw [b01_f z, b01_f (fun g => z g.2)]
set_option maxHeartbeats 4000000 in
set_option maxRecDepth 100000 in
theorem cn_ownerOf {G : mG} {l : Launch} (d : Nat) {h : mH} {w : Nat} {c : Nat → Int} {C : Nat → Nat → Int} {nm : Nat → Int64} {g : Nat → Option Nat} (hW : isW h w c C nm g) (hc : ∀ q, InR (c q)) {t : Nat} (ht : (t : Int) < c 0) (h2 : t < 90) : RUNM G l (d + 1) mX9_ownerOf [.ref w, .int (J (t : Int))] h (fun v h' => v = some (.int (J (c (33 + 3 * t)))) ∧ h' = h) := by
  have y := cw_ownerOf (G := G) (l := l) d hW hc (i := (t : Int)) ⟨by omega, by omega⟩
  rw [ownF_t ht h2] at y
  exact y
def wiL (c : Nat → Int) (o : Int) : Nat → Int → Bool
  | 0, _ => false
  | n + 1, s => if 0 ≤ s then (if s = o then true else wiL c o n (ownF c (100 + s))) else false
set_option maxHeartbeats 4000000 in
set_option maxRecDepth 100000 in
theorem L_isWithin {G : mG} {l : Launch} (d : Nat) {h : mH} {w : Nat} {c : Nat → Int} {C : Nat → Nat → Int} {nm : Nat → Int64} {g : Nat → Option Nat} (hW : isW h w c C nm g) (hc : ∀ q, InR (c q)) (hO : oOk c) {i o : Int} (ho : InR o) : ∀ (n k : Nat) (s : Int), k + n = 60 → -5 ≤ s → s ≤ 59 → RUN G l (d + 2) mX9_isWithin 5 [some (.ref w), some (.int (J i)), some (.int (J o)), some (.int (J s)), some (.int (J (k : Int)))] [] h (fun v h' => v = some (.int (J (bz (wiL c o n s)))) ∧ h' = h) := by
  intro n
  induction n with
  | zero =>
    intro k s hk h1 h2
    refine r_iload (pc := 5) dX9_isWithin_5 rfl ?_
    refine rj_bipush (pc := 7) dX9_isWithin_7 (by decide +kernel) ?_
    refine rj_icmp_ge (pc := 9) (tgt := 38) dX9_isWithin_9 (by decide) (by first | exact b01_r | exact bz_r | omega | (constructor <;> omega) | apply_assumption | (apply atF_r; assumption) | fail "no range") (by first | exact b01_r | exact bz_r | omega | (constructor <;> omega) | apply_assumption | (apply atF_r; assumption) | fail "no range") (fun c_9 => ?_) (fun c_9 => ?_)
    · refine rj_iconst (pc := 38) dX9_isWithin_38 ?_
      refine r_ireturn (pc := 39) .boolean dX9_isWithin_39 rfl (by first | exact nar_J0 | exact nar_J1 | exact nar_b01 | exact nar_bz) ?_
      exact ⟨rfl, rfl⟩
    · exfalso; omega
  | succ n ih =>
    intro k s hk h1 h2
    refine r_iload (pc := 5) dX9_isWithin_5 rfl ?_
    refine rj_bipush (pc := 7) dX9_isWithin_7 (by decide +kernel) ?_
    refine rj_icmp_ge (pc := 9) (tgt := 38) dX9_isWithin_9 (by decide) (by first | exact b01_r | exact bz_r | omega | (constructor <;> omega) | apply_assumption | (apply atF_r; assumption) | fail "no range") (by first | exact b01_r | exact bz_r | omega | (constructor <;> omega) | apply_assumption | (apply atF_r; assumption) | fail "no range") (fun c_9 => ?_) (fun c_9 => ?_)
    · refine rj_iconst (pc := 38) dX9_isWithin_38 ?_
      refine r_ireturn (pc := 39) .boolean dX9_isWithin_39 rfl (by first | exact nar_J0 | exact nar_J1 | exact nar_b01 | exact nar_bz) ?_
      first | exact absurd c_9 (by omega) | exact ⟨by rw [wiL, if_pos (by omega), if_pos c_18]; rfl, rfl⟩ | exact ⟨by rw [wiL, if_neg (by omega)]; rfl, rfl⟩
    · refine r_iload_n (pc := 12) dX9_isWithin_12 rfl ?_
      refine rj_if_lt (pc := 13) (tgt := 38) dX9_isWithin_13 (by decide) (by first | exact b01_r | exact bz_r | omega | (constructor <;> omega) | apply_assumption | (apply atF_r; assumption) | fail "no range") (fun c_13 => ?_) (fun c_13 => ?_)
      · refine rj_iconst (pc := 38) dX9_isWithin_38 ?_
        refine r_ireturn (pc := 39) .boolean dX9_isWithin_39 rfl (by first | exact nar_J0 | exact nar_J1 | exact nar_b01 | exact nar_bz) ?_
        first | exact absurd c_9 (by omega) | exact ⟨by rw [wiL, if_pos (by omega), if_pos c_18]; rfl, rfl⟩ | exact ⟨by rw [wiL, if_neg (by omega)]; rfl, rfl⟩
      · refine r_iload_n (pc := 16) dX9_isWithin_16 rfl ?_
        refine r_iload_n (pc := 17) dX9_isWithin_17 rfl ?_
        refine rj_icmp_ne (pc := 18) (tgt := 23) dX9_isWithin_18 (by decide) (by first | exact b01_r | exact bz_r | omega | (constructor <;> omega) | apply_assumption | (apply atF_r; assumption) | fail "no range") (by first | exact b01_r | exact bz_r | omega | (constructor <;> omega) | apply_assumption | (apply atF_r; assumption) | fail "no range") (fun c_18 => ?_) (fun c_18 => ?_)
        · refine r_aload_n (pc := 23) dX9_isWithin_23 rfl (by first | rfl | exact isRefV_rf _) ?_
          refine rj_bipush (pc := 24) dX9_isWithin_24 (by decide +kernel) ?_
          refine r_iload_n (pc := 26) dX9_isWithin_26 rfl ?_
          refine rj_iadd (pc := 27) dX9_isWithin_27 ?_
          refine r_callV1 (pc := 28) dX9_isWithin_28 qX9_ownerOf kX9_151 vX9_ownerOf (by first | assumption | exact isI.gx (by assumption) | exact isI.gc (by assumption) | exact isW.gx (by assumption) | exact isW.gF (by assumption) | exact isW.gT (by assumption) (by omega) | exact isW.gS (by assumption) (by omega) | exact isW.gK (by assumption) (by omega) | exact isW.g1 (by assumption) | exact isW.g2 (by assumption) | exact isW.g3 (by assumption) | exact isI.gx (isW.i0 (by assumption)) | exact isI.gc (isW.i0 (by assumption)) | exact isI.gx (isW.i1 (by assumption)) | exact isI.gc (isW.i1 (by assumption)) | exact isI.gx (isW.i2 (by assumption)) | exact isI.gc (isW.i2 (by assumption)) | exact isI.gx (isW.i3 (by assumption)) | exact isI.gc (isW.i3 (by assumption)) | exact isI.gx (isW.i4 (by assumption)) | exact isI.gc (isW.i4 (by assumption)) | exact isI.gx (isW.i5 (by assumption)) | exact isI.gc (isW.i5 (by assumption)) | exact isR.gx (by assumption) | exact isRd.gx (by assumption) | exact isSp.gx (by assumption) | exact isI.gx (isR.i (by assumption)) | exact isI.gx (isRd.i (by assumption)) | exact isI.gc (isRd.i (by assumption)) | exact isI.gx (isSp.i (by assumption)) | exact isW.gx (isR.w (by assumption)) | exact isW.gF (isR.w (by assumption)) | fail "no such object") rfl rfl (Nat.le_of_ble_eq_true rfl) (cw_ownerOf _ hW hc (i := 100 + s) ⟨by omega, by omega⟩) (fun v_28 h_28 q_28 => ?_)
          obtain ⟨rfl, rfl⟩ := q_28
          refine r_istore_n (pc := 31) dX9_isWithin_31 (Nat.le_of_ble_eq_true rfl) ?_
          dsimp only [lsSt, List.set, mLs, mEnt]
          refine rj_iinc (pc := 32) dX9_isWithin_32 (Nat.le_of_ble_eq_true rfl) rfl ?_
          dsimp only [lsSt, List.set, mLs, mEnt]
          refine r_goto (pc := 35) (tgt := 5) dX9_isWithin_35 (by decide) ?_
          have z := hO (100 + s)
          have y := ih (k + 1) _ (by omega) z.1 z.2
          rw [show ((k + 1 : Nat) : Int) = (k : Int) + 1 by omega] at y
          rw [wiL, if_pos (by omega), if_neg c_18]
          exact y
        · refine rj_iconst (pc := 21) dX9_isWithin_21 ?_
          refine r_ireturn (pc := 22) .boolean dX9_isWithin_22 rfl (by first | exact nar_J0 | exact nar_J1 | exact nar_b01 | exact nar_bz) ?_
          first | exact absurd c_9 (by omega) | exact ⟨by rw [wiL, if_pos (by omega), if_pos c_18]; rfl, rfl⟩ | exact ⟨by rw [wiL, if_neg (by omega)]; rfl, rfl⟩
set_option maxHeartbeats 4000000 in
set_option maxRecDepth 100000 in
theorem cq_isWithin {G : mG} {l : Launch} (d : Nat) {h : mH} {w : Nat} {c : Nat → Int} {C : Nat → Nat → Int} {nm : Nat → Int64} {g : Nat → Option Nat} (hW : isW h w c C nm g) (hc : ∀ q, InR (c q)) (hO : oOk c) {i o : Int} (h1 : -5 ≤ i) (h2 : i ≤ 59) (ho : InR o) : RUNM G l (d + 2) mX9_isWithin [.ref w, .int (J i), .int (J o)] h (fun v h' => v = some (.int (J (bz (wiL c o 60 i)))) ∧ h' = h) := by
  refine RUNM.of (by decide +kernel) (Nat.le_of_ble_eq_true rfl) ?_
  refine r_iload_n (pc := 0) dX9_isWithin_0 rfl ?_
  refine r_istore_n (pc := 1) dX9_isWithin_1 (Nat.le_of_ble_eq_true rfl) ?_
  dsimp only [lsSt, List.set, mLs, mEnt]
  refine rj_iconst (pc := 2) dX9_isWithin_2 ?_
  refine r_istore (pc := 3) dX9_isWithin_3 (Nat.le_of_ble_eq_true rfl) ?_
  dsimp only [lsSt, List.set, mLs, mEnt]
  exact L_isWithin d hW hc hO ho 60 0 i (by omega) h1 h2
def saL (c : Nat → Int) : Nat → Int → Int
  | 0, _ => 0
  | n + 1, s => if 0 ≤ s then 1 + saL c n (ownF c (100 + s)) else 0
set_option maxHeartbeats 4000000 in
set_option maxRecDepth 100000 in
theorem L_scopesAbove {G : mG} {l : Launch} (d : Nat) {h : mH} {w : Nat} {c : Nat → Int} {C : Nat → Nat → Int} {nm : Nat → Int64} {g : Nat → Option Nat} (hW : isW h w c C nm g) (hc : ∀ q, InR (c q)) (hO : oOk c) {i : Int} : ∀ (n k : Nat) (s : Int), k + n = 60 → -5 ≤ s → s ≤ 59 → RUN G l (d + 2) mX9_scopesAbove 11 [some (.ref w), some (.int (J i)), some (.int (J (k : Int))), some (.int (J s))] [] h (fun v h' => v = some (.int (J ((k : Int) + saL c n s))) ∧ h' = h) := by
  intro n
  induction n with
  | zero =>
    intro k s hk h1 h2
    refine r_iload_n (pc := 11) dX9_scopesAbove_11 rfl ?_
    refine rj_if_lt (pc := 12) (tgt := 36) dX9_scopesAbove_12 (by decide) (by first | exact b01_r | exact bz_r | omega | (constructor <;> omega) | apply_assumption | (apply atF_r; assumption) | fail "no range") (fun c_12 => ?_) (fun c_12 => ?_)
    · refine r_iload_n (pc := 36) dX9_scopesAbove_36 rfl ?_
      refine r_ireturn (pc := 37) .int dX9_scopesAbove_37 rfl (by first | rfl | assumption) ?_
      exact ⟨by unfold saL; rw [Int.add_zero], rfl⟩
    · refine r_iload_n (pc := 15) dX9_scopesAbove_15 rfl ?_
      refine rj_bipush (pc := 16) dX9_scopesAbove_16 (by decide +kernel) ?_
      refine rj_icmp_ge (pc := 18) (tgt := 36) dX9_scopesAbove_18 (by decide) (by first | exact b01_r | exact bz_r | omega | (constructor <;> omega) | apply_assumption | (apply atF_r; assumption) | fail "no range") (by first | exact b01_r | exact bz_r | omega | (constructor <;> omega) | apply_assumption | (apply atF_r; assumption) | fail "no range") (fun c_18 => ?_) (fun c_18 => ?_)
      · refine r_iload_n (pc := 36) dX9_scopesAbove_36 rfl ?_
        refine r_ireturn (pc := 37) .int dX9_scopesAbove_37 rfl (by first | rfl | assumption) ?_
        exact ⟨by unfold saL; rw [Int.add_zero], rfl⟩
      · exfalso; omega
  | succ n ih =>
    intro k s hk h1 h2
    refine r_iload_n (pc := 11) dX9_scopesAbove_11 rfl ?_
    refine rj_if_lt (pc := 12) (tgt := 36) dX9_scopesAbove_12 (by decide) (by first | exact b01_r | exact bz_r | omega | (constructor <;> omega) | apply_assumption | (apply atF_r; assumption) | fail "no range") (fun c_12 => ?_) (fun c_12 => ?_)
    · refine r_iload_n (pc := 36) dX9_scopesAbove_36 rfl ?_
      refine r_ireturn (pc := 37) .int dX9_scopesAbove_37 rfl (by first | rfl | assumption) ?_
      first | (exfalso; omega) | exact ⟨by rw [saL, if_neg (by omega), Int.add_zero], rfl⟩
    · refine r_iload_n (pc := 15) dX9_scopesAbove_15 rfl ?_
      refine rj_bipush (pc := 16) dX9_scopesAbove_16 (by decide +kernel) ?_
      refine rj_icmp_ge (pc := 18) (tgt := 36) dX9_scopesAbove_18 (by decide) (by first | exact b01_r | exact bz_r | omega | (constructor <;> omega) | apply_assumption | (apply atF_r; assumption) | fail "no range") (by first | exact b01_r | exact bz_r | omega | (constructor <;> omega) | apply_assumption | (apply atF_r; assumption) | fail "no range") (fun c_18 => ?_) (fun c_18 => ?_)
      · refine r_iload_n (pc := 36) dX9_scopesAbove_36 rfl ?_
        refine r_ireturn (pc := 37) .int dX9_scopesAbove_37 rfl (by first | rfl | assumption) ?_
        first | (exfalso; omega) | exact ⟨by rw [saL, if_neg (by omega), Int.add_zero], rfl⟩
      · refine r_aload_n (pc := 21) dX9_scopesAbove_21 rfl (by first | rfl | exact isRefV_rf _) ?_
        refine rj_bipush (pc := 22) dX9_scopesAbove_22 (by decide +kernel) ?_
        refine r_iload_n (pc := 24) dX9_scopesAbove_24 rfl ?_
        refine rj_iadd (pc := 25) dX9_scopesAbove_25 ?_
        refine r_callV1 (pc := 26) dX9_scopesAbove_26 qX9_ownerOf kX9_151 vX9_ownerOf (by first | assumption | exact isI.gx (by assumption) | exact isI.gc (by assumption) | exact isW.gx (by assumption) | exact isW.gF (by assumption) | exact isW.gT (by assumption) (by omega) | exact isW.gS (by assumption) (by omega) | exact isW.gK (by assumption) (by omega) | exact isW.g1 (by assumption) | exact isW.g2 (by assumption) | exact isW.g3 (by assumption) | exact isI.gx (isW.i0 (by assumption)) | exact isI.gc (isW.i0 (by assumption)) | exact isI.gx (isW.i1 (by assumption)) | exact isI.gc (isW.i1 (by assumption)) | exact isI.gx (isW.i2 (by assumption)) | exact isI.gc (isW.i2 (by assumption)) | exact isI.gx (isW.i3 (by assumption)) | exact isI.gc (isW.i3 (by assumption)) | exact isI.gx (isW.i4 (by assumption)) | exact isI.gc (isW.i4 (by assumption)) | exact isI.gx (isW.i5 (by assumption)) | exact isI.gc (isW.i5 (by assumption)) | exact isR.gx (by assumption) | exact isRd.gx (by assumption) | exact isSp.gx (by assumption) | exact isI.gx (isR.i (by assumption)) | exact isI.gx (isRd.i (by assumption)) | exact isI.gc (isRd.i (by assumption)) | exact isI.gx (isSp.i (by assumption)) | exact isW.gx (isR.w (by assumption)) | exact isW.gF (isR.w (by assumption)) | fail "no such object") rfl rfl (Nat.le_of_ble_eq_true rfl) (cw_ownerOf _ hW hc (i := 100 + s) ⟨by omega, by omega⟩) (fun v_26 h_26 q_26 => ?_)
        obtain ⟨rfl, rfl⟩ := q_26
        refine r_istore_n (pc := 29) dX9_scopesAbove_29 (Nat.le_of_ble_eq_true rfl) ?_
        dsimp only [lsSt, List.set, mLs, mEnt]
        refine rj_iinc (pc := 30) dX9_scopesAbove_30 (Nat.le_of_ble_eq_true rfl) rfl ?_
        dsimp only [lsSt, List.set, mLs, mEnt]
        refine r_goto (pc := 33) (tgt := 11) dX9_scopesAbove_33 (by decide) ?_
        have z := hO (100 + s)
        have y := ih (k + 1) _ (by omega) z.1 z.2
        rw [show ((k + 1 : Nat) : Int) = (k : Int) + 1 by omega] at y
        rw [show (k : Int) + saL c (n + 1) s = (k : Int) + 1 + saL c n (ownF c (100 + s)) by rw [saL, if_pos (by omega)]; omega]
        exact y
set_option maxHeartbeats 4000000 in
set_option maxRecDepth 100000 in
theorem cq_scopesAbove {G : mG} {l : Launch} (d : Nat) {h : mH} {w : Nat} {c : Nat → Int} {C : Nat → Nat → Int} {nm : Nat → Int64} {g : Nat → Option Nat} (hW : isW h w c C nm g) (hc : ∀ q, InR (c q)) (hO : oOk c) {i : Int} (h1 : 0 ≤ i) (h2 : i ≤ 59) : RUNM G l (d + 2) mX9_scopesAbove [.ref w, .int (J i)] h (fun v h' => v = some (.int (J (saL c 60 (ownF c (100 + i))))) ∧ h' = h) := by
  refine RUNM.of (by decide +kernel) (Nat.le_of_ble_eq_true rfl) ?_
  refine rj_iconst (pc := 0) dX9_scopesAbove_0 ?_
  refine r_istore_n (pc := 1) dX9_scopesAbove_1 (Nat.le_of_ble_eq_true rfl) ?_
  dsimp only [lsSt, List.set, mLs, mEnt]
  refine r_aload_n (pc := 2) dX9_scopesAbove_2 rfl (by first | rfl | exact isRefV_rf _) ?_
  refine rj_bipush (pc := 3) dX9_scopesAbove_3 (by decide +kernel) ?_
  refine r_iload_n (pc := 5) dX9_scopesAbove_5 rfl ?_
  refine rj_iadd (pc := 6) dX9_scopesAbove_6 ?_
  refine r_callV1 (pc := 7) dX9_scopesAbove_7 qX9_ownerOf kX9_151 vX9_ownerOf (by first | assumption | exact isI.gx (by assumption) | exact isI.gc (by assumption) | exact isW.gx (by assumption) | exact isW.gF (by assumption) | exact isW.gT (by assumption) (by omega) | exact isW.gS (by assumption) (by omega) | exact isW.gK (by assumption) (by omega) | exact isW.g1 (by assumption) | exact isW.g2 (by assumption) | exact isW.g3 (by assumption) | exact isI.gx (isW.i0 (by assumption)) | exact isI.gc (isW.i0 (by assumption)) | exact isI.gx (isW.i1 (by assumption)) | exact isI.gc (isW.i1 (by assumption)) | exact isI.gx (isW.i2 (by assumption)) | exact isI.gc (isW.i2 (by assumption)) | exact isI.gx (isW.i3 (by assumption)) | exact isI.gc (isW.i3 (by assumption)) | exact isI.gx (isW.i4 (by assumption)) | exact isI.gc (isW.i4 (by assumption)) | exact isI.gx (isW.i5 (by assumption)) | exact isI.gc (isW.i5 (by assumption)) | exact isR.gx (by assumption) | exact isRd.gx (by assumption) | exact isSp.gx (by assumption) | exact isI.gx (isR.i (by assumption)) | exact isI.gx (isRd.i (by assumption)) | exact isI.gc (isRd.i (by assumption)) | exact isI.gx (isSp.i (by assumption)) | exact isW.gx (isR.w (by assumption)) | exact isW.gF (isR.w (by assumption)) | fail "no such object") rfl rfl (Nat.le_of_ble_eq_true rfl) (cw_ownerOf _ hW hc (i := 100 + i) ⟨by omega, by omega⟩) (fun v_7 h_7 q_7 => ?_)
  obtain ⟨rfl, rfl⟩ := q_7
  refine r_istore_n (pc := 10) dX9_scopesAbove_10 (Nat.le_of_ble_eq_true rfl) ?_
  dsimp only [lsSt, List.set, mLs, mEnt]
  have z := hO (100 + i)
  have y := L_scopesAbove (G := G) (l := l) d hW hc hO (i := i) 60 0 _ (by omega) z.1 z.2
  rw [show ((0 : Nat) : Int) + saL c 60 (ownF c (100 + i)) = saL c 60 (ownF c (100 + i)) from Int.zero_add _] at y
  exact y
def hwB (c : Nat → Int) (i : Int) (t : Nat) : Bool := decide (c (32 + 3 * t) = 0 ∧ wiL c i 60 (c (33 + 3 * t)) = true)
set_option maxHeartbeats 4000000 in
set_option maxRecDepth 100000 in
theorem L_heldWithin {G : mG} {l : Launch} (d : Nat) {h : mH} {w : Nat} {c : Nat → Int} {C : Nat → Nat → Int} {nm : Nat → Int64} {g : Nat → Option Nat} (hW : isW h w c C nm g) (hc : ∀ q, InR (c q)) (hO : oOk c) {N : Nat} (hN : c 0 = (N : Int)) (hcap : N ≤ 90) {i : Int} (hi : InR i) : ∀ k t : Nat, t + k = N → RUN G l (d + 3) mX9_heldWithin 4 [some (.ref w), some (.int (J i)), some (.int (J (cnt (hwB c i) t))), some (.int (J (t : Int)))] [] h (fun v h' => v = some (.int (J (cnt (hwB c i) N))) ∧ h' = h) := by
  intro k
  induction k with
  | zero =>
    intro t ht
    refine r_iload_n (pc := 4) dX9_heldWithin_4 rfl ?_
    refine r_aload_n (pc := 5) dX9_heldWithin_5 rfl (by first | rfl | exact isRefV_rf _) ?_
    refine r_getf (pc := 6) dX9_heldWithin_6 fX9_71 (by first | assumption | exact isI.gx (by assumption) | exact isI.gc (by assumption) | exact isW.gx (by assumption) | exact isW.gF (by assumption) | exact isW.gT (by assumption) (by omega) | exact isW.gS (by assumption) (by omega) | exact isW.gK (by assumption) (by omega) | exact isW.g1 (by assumption) | exact isW.g2 (by assumption) | exact isW.g3 (by assumption) | exact isI.gx (isW.i0 (by assumption)) | exact isI.gc (isW.i0 (by assumption)) | exact isI.gx (isW.i1 (by assumption)) | exact isI.gc (isW.i1 (by assumption)) | exact isI.gx (isW.i2 (by assumption)) | exact isI.gc (isW.i2 (by assumption)) | exact isI.gx (isW.i3 (by assumption)) | exact isI.gc (isW.i3 (by assumption)) | exact isI.gx (isW.i4 (by assumption)) | exact isI.gc (isW.i4 (by assumption)) | exact isI.gx (isW.i5 (by assumption)) | exact isI.gc (isW.i5 (by assumption)) | exact isR.gx (by assumption) | exact isRd.gx (by assumption) | exact isSp.gx (by assumption) | exact isI.gx (isR.i (by assumption)) | exact isI.gx (isRd.i (by assumption)) | exact isI.gc (isRd.i (by assumption)) | exact isI.gx (isSp.i (by assumption)) | exact isW.gx (isR.w (by assumption)) | exact isW.gF (isR.w (by assumption)) | fail "no such object") (by rfl) ?_
    refine rj_icmp_ge (pc := 9) (tgt := 42) dX9_heldWithin_9 (by decide) (by first | exact b01_r | exact bz_r | omega | (constructor <;> omega) | apply_assumption | (apply atF_r; assumption) | fail "no range") (by first | exact b01_r | exact bz_r | omega | (constructor <;> omega) | apply_assumption | (apply atF_r; assumption) | fail "no range") (fun c_9 => ?_) (fun c_9 => ?_)
    · refine r_iload_n (pc := 42) dX9_heldWithin_42 rfl ?_
      refine r_ireturn (pc := 43) .int dX9_heldWithin_43 rfl (by first | rfl | assumption) ?_
      obtain rfl : t = N := by omega
      exact ⟨rfl, rfl⟩
    · exfalso; omega
  | succ k ih =>
    intro t ht
    refine r_iload_n (pc := 4) dX9_heldWithin_4 rfl ?_
    refine r_aload_n (pc := 5) dX9_heldWithin_5 rfl (by first | rfl | exact isRefV_rf _) ?_
    refine r_getf (pc := 6) dX9_heldWithin_6 fX9_71 (by first | assumption | exact isI.gx (by assumption) | exact isI.gc (by assumption) | exact isW.gx (by assumption) | exact isW.gF (by assumption) | exact isW.gT (by assumption) (by omega) | exact isW.gS (by assumption) (by omega) | exact isW.gK (by assumption) (by omega) | exact isW.g1 (by assumption) | exact isW.g2 (by assumption) | exact isW.g3 (by assumption) | exact isI.gx (isW.i0 (by assumption)) | exact isI.gc (isW.i0 (by assumption)) | exact isI.gx (isW.i1 (by assumption)) | exact isI.gc (isW.i1 (by assumption)) | exact isI.gx (isW.i2 (by assumption)) | exact isI.gc (isW.i2 (by assumption)) | exact isI.gx (isW.i3 (by assumption)) | exact isI.gc (isW.i3 (by assumption)) | exact isI.gx (isW.i4 (by assumption)) | exact isI.gc (isW.i4 (by assumption)) | exact isI.gx (isW.i5 (by assumption)) | exact isI.gc (isW.i5 (by assumption)) | exact isR.gx (by assumption) | exact isRd.gx (by assumption) | exact isSp.gx (by assumption) | exact isI.gx (isR.i (by assumption)) | exact isI.gx (isRd.i (by assumption)) | exact isI.gc (isRd.i (by assumption)) | exact isI.gx (isSp.i (by assumption)) | exact isW.gx (isR.w (by assumption)) | exact isW.gF (isR.w (by assumption)) | fail "no such object") (by rfl) ?_
    refine rj_icmp_ge (pc := 9) (tgt := 42) dX9_heldWithin_9 (by decide) (by first | exact b01_r | exact bz_r | omega | (constructor <;> omega) | apply_assumption | (apply atF_r; assumption) | fail "no range") (by first | exact b01_r | exact bz_r | omega | (constructor <;> omega) | apply_assumption | (apply atF_r; assumption) | fail "no range") (fun c_9 => ?_) (fun c_9 => ?_)
    · refine r_iload_n (pc := 42) dX9_heldWithin_42 rfl ?_
      refine r_ireturn (pc := 43) .int dX9_heldWithin_43 rfl (by first | rfl | assumption) ?_
      exfalso; omega
    · refine r_aload_n (pc := 12) dX9_heldWithin_12 rfl (by first | rfl | exact isRefV_rf _) ?_
      refine r_iload_n (pc := 13) dX9_heldWithin_13 rfl ?_
      refine r_callV1 (pc := 14) dX9_heldWithin_14 qX9_isHeld kX9_157 vX9_isHeld (by first | assumption | exact isI.gx (by assumption) | exact isI.gc (by assumption) | exact isW.gx (by assumption) | exact isW.gF (by assumption) | exact isW.gT (by assumption) (by omega) | exact isW.gS (by assumption) (by omega) | exact isW.gK (by assumption) (by omega) | exact isW.g1 (by assumption) | exact isW.g2 (by assumption) | exact isW.g3 (by assumption) | exact isI.gx (isW.i0 (by assumption)) | exact isI.gc (isW.i0 (by assumption)) | exact isI.gx (isW.i1 (by assumption)) | exact isI.gc (isW.i1 (by assumption)) | exact isI.gx (isW.i2 (by assumption)) | exact isI.gc (isW.i2 (by assumption)) | exact isI.gx (isW.i3 (by assumption)) | exact isI.gc (isW.i3 (by assumption)) | exact isI.gx (isW.i4 (by assumption)) | exact isI.gc (isW.i4 (by assumption)) | exact isI.gx (isW.i5 (by assumption)) | exact isI.gc (isW.i5 (by assumption)) | exact isR.gx (by assumption) | exact isRd.gx (by assumption) | exact isSp.gx (by assumption) | exact isI.gx (isR.i (by assumption)) | exact isI.gx (isRd.i (by assumption)) | exact isI.gc (isRd.i (by assumption)) | exact isI.gx (isSp.i (by assumption)) | exact isW.gx (isR.w (by assumption)) | exact isW.gF (isR.w (by assumption)) | fail "no such object") rfl rfl (Nat.le_of_ble_eq_true rfl) (cn_isHeld _ hW hc (t := t) (by omega) (by omega)) (fun v_14 h_14 q_14 => ?_)
      obtain ⟨rfl, rfl⟩ := q_14
      refine rj_if_eq (pc := 17) (tgt := 36) dX9_heldWithin_17 (by decide) (by first | exact b01_r | exact bz_r | omega | (constructor <;> omega) | apply_assumption | (apply atF_r; assumption) | fail "no range") (fun c_17 => ?_) (fun c_17 => ?_)
      · try simp only [b01_0, bz_0, Classical.not_not] at c_17
        refine rj_iinc (pc := 36) dX9_heldWithin_36 (Nat.le_of_ble_eq_true rfl) rfl ?_
        dsimp only [lsSt, List.set, mLs, mEnt]
        refine r_goto (pc := 39) (tgt := 4) dX9_heldWithin_39 (by decide) ?_
        have z := ih (t + 1) (by omega)
        rw [show ((t + 1 : Nat) : Int) = (t : Int) + 1 by omega] at z
        rw [← cnt_f (p := hwB c i) (n := t) (decide_eq_false (fun g => c_17 g.1))] at z
        rw [Int.add_zero] at z
        exact z
      · try simp only [b01_0, bz_0, Classical.not_not] at c_17
        refine r_aload_n (pc := 20) dX9_heldWithin_20 rfl (by first | rfl | exact isRefV_rf _) ?_
        refine r_aload_n (pc := 21) dX9_heldWithin_21 rfl (by first | rfl | exact isRefV_rf _) ?_
        refine r_iload_n (pc := 22) dX9_heldWithin_22 rfl ?_
        refine r_callV1 (pc := 23) dX9_heldWithin_23 qX9_ownerOf kX9_151 vX9_ownerOf (by first | assumption | exact isI.gx (by assumption) | exact isI.gc (by assumption) | exact isW.gx (by assumption) | exact isW.gF (by assumption) | exact isW.gT (by assumption) (by omega) | exact isW.gS (by assumption) (by omega) | exact isW.gK (by assumption) (by omega) | exact isW.g1 (by assumption) | exact isW.g2 (by assumption) | exact isW.g3 (by assumption) | exact isI.gx (isW.i0 (by assumption)) | exact isI.gc (isW.i0 (by assumption)) | exact isI.gx (isW.i1 (by assumption)) | exact isI.gc (isW.i1 (by assumption)) | exact isI.gx (isW.i2 (by assumption)) | exact isI.gc (isW.i2 (by assumption)) | exact isI.gx (isW.i3 (by assumption)) | exact isI.gc (isW.i3 (by assumption)) | exact isI.gx (isW.i4 (by assumption)) | exact isI.gc (isW.i4 (by assumption)) | exact isI.gx (isW.i5 (by assumption)) | exact isI.gc (isW.i5 (by assumption)) | exact isR.gx (by assumption) | exact isRd.gx (by assumption) | exact isSp.gx (by assumption) | exact isI.gx (isR.i (by assumption)) | exact isI.gx (isRd.i (by assumption)) | exact isI.gc (isRd.i (by assumption)) | exact isI.gx (isSp.i (by assumption)) | exact isW.gx (isR.w (by assumption)) | exact isW.gF (isR.w (by assumption)) | fail "no such object") rfl rfl (Nat.le_of_ble_eq_true rfl) (cn_ownerOf _ hW hc (t := t) (by omega) (by omega)) (fun v_23 h_23 q_23 => ?_)
        obtain ⟨rfl, rfl⟩ := q_23
        refine r_iload_n (pc := 26) dX9_heldWithin_26 rfl ?_
        refine r_callV2 (pc := 27) dX9_heldWithin_27 qX9_isWithin kX9_164 vX9_isWithin (by first | assumption | exact isI.gx (by assumption) | exact isI.gc (by assumption) | exact isW.gx (by assumption) | exact isW.gF (by assumption) | exact isW.gT (by assumption) (by omega) | exact isW.gS (by assumption) (by omega) | exact isW.gK (by assumption) (by omega) | exact isW.g1 (by assumption) | exact isW.g2 (by assumption) | exact isW.g3 (by assumption) | exact isI.gx (isW.i0 (by assumption)) | exact isI.gc (isW.i0 (by assumption)) | exact isI.gx (isW.i1 (by assumption)) | exact isI.gc (isW.i1 (by assumption)) | exact isI.gx (isW.i2 (by assumption)) | exact isI.gc (isW.i2 (by assumption)) | exact isI.gx (isW.i3 (by assumption)) | exact isI.gc (isW.i3 (by assumption)) | exact isI.gx (isW.i4 (by assumption)) | exact isI.gc (isW.i4 (by assumption)) | exact isI.gx (isW.i5 (by assumption)) | exact isI.gc (isW.i5 (by assumption)) | exact isR.gx (by assumption) | exact isRd.gx (by assumption) | exact isSp.gx (by assumption) | exact isI.gx (isR.i (by assumption)) | exact isI.gx (isRd.i (by assumption)) | exact isI.gc (isRd.i (by assumption)) | exact isI.gx (isSp.i (by assumption)) | exact isW.gx (isR.w (by assumption)) | exact isW.gF (isR.w (by assumption)) | fail "no such object") rfl rfl (Nat.le_of_ble_eq_true rfl) (by have z := hO (t : Int); rw [ownF_t (by omega) (by omega)] at z; exact cq_isWithin d hW hc hO z.1 z.2 hi) (fun v_27 h_27 q_27 => ?_)
        obtain ⟨rfl, rfl⟩ := q_27
        refine rj_if_eq (pc := 30) (tgt := 36) dX9_heldWithin_30 (by decide) (by first | exact b01_r | exact bz_r | omega | (constructor <;> omega) | apply_assumption | (apply atF_r; assumption) | fail "no range") (fun c_30 => ?_) (fun c_30 => ?_)
        · try simp only [b01_0, bz_0, Classical.not_not] at c_30
          refine rj_iinc (pc := 36) dX9_heldWithin_36 (Nat.le_of_ble_eq_true rfl) rfl ?_
          dsimp only [lsSt, List.set, mLs, mEnt]
          refine r_goto (pc := 39) (tgt := 4) dX9_heldWithin_39 (by decide) ?_
          have z := ih (t + 1) (by omega)
          rw [show ((t + 1 : Nat) : Int) = (t : Int) + 1 by omega] at z
          rw [← cnt_f (p := hwB c i) (n := t) (decide_eq_false (fun g => c_30 g.2))] at z
          rw [Int.add_zero] at z
          exact z
        · try simp only [b01_0, bz_0, Classical.not_not] at c_30
          refine rj_iinc (pc := 33) dX9_heldWithin_33 (Nat.le_of_ble_eq_true rfl) rfl ?_
          dsimp only [lsSt, List.set, mLs, mEnt]
          refine rj_iinc (pc := 36) dX9_heldWithin_36 (Nat.le_of_ble_eq_true rfl) rfl ?_
          dsimp only [lsSt, List.set, mLs, mEnt]
          refine r_goto (pc := 39) (tgt := 4) dX9_heldWithin_39 (by decide) ?_
          have z := ih (t + 1) (by omega)
          rw [show ((t + 1 : Nat) : Int) = (t : Int) + 1 by omega] at z
          rw [← cnt_t (p := hwB c i) (n := t) (decide_eq_true (⟨c_17, c_30⟩))] at z
          exact z
set_option maxHeartbeats 4000000 in
set_option maxRecDepth 100000 in
theorem cq_heldWithin {G : mG} {l : Launch} (d : Nat) {h : mH} {w : Nat} {c : Nat → Int} {C : Nat → Nat → Int} {nm : Nat → Int64} {g : Nat → Option Nat} (hW : isW h w c C nm g) (hc : ∀ q, InR (c q)) (hO : oOk c) {N : Nat} (hN : c 0 = (N : Int)) (hcap : N ≤ 90) {i : Int} (hi : InR i) : RUNM G l (d + 3) mX9_heldWithin [.ref w, .int (J i)] h (fun v h' => v = some (.int (J (cnt (hwB c i) N))) ∧ h' = h) := by
  refine RUNM.of (by decide +kernel) (Nat.le_of_ble_eq_true rfl) ?_
  refine rj_iconst (pc := 0) dX9_heldWithin_0 ?_
  refine r_istore_n (pc := 1) dX9_heldWithin_1 (Nat.le_of_ble_eq_true rfl) ?_
  dsimp only [lsSt, List.set, mLs, mEnt]
  refine rj_iconst (pc := 2) dX9_heldWithin_2 ?_
  refine r_istore_n (pc := 3) dX9_heldWithin_3 (Nat.le_of_ble_eq_true rfl) ?_
  dsimp only [lsSt, List.set, mLs, mEnt]
  exact L_heldWithin d hW hc hO hN hcap hi N 0 (by omega)
def ywL (c : Nat → Int) (i : Int) : Nat → Int
  | 0 => -5
  | n + 1 => if hwB c i n = true then (n : Int) else ywL c i n
set_option maxHeartbeats 4000000 in
set_option maxRecDepth 100000 in
theorem L_youngestWithin {G : mG} {l : Launch} (d : Nat) {h : mH} {w : Nat} {c : Nat → Int} {C : Nat → Nat → Int} {nm : Nat → Int64} {g : Nat → Option Nat} (hW : isW h w c C nm g) (hc : ∀ q, InR (c q)) (hO : oOk c) {N : Nat} (hN : c 0 = (N : Int)) (hcap : N ≤ 90) {i : Int} (hi : InR i) : ∀ t : Nat, t ≤ N → RUN G l (d + 3) mX9_youngestWithin 7 [some (.ref w), some (.int (J i)), some (.int (J ((t : Int) - 1)))] [] h (fun v h' => v = some (.int (J (ywL c i t))) ∧ h' = h) := by
  intro t
  induction t with
  | zero =>
    intro ht
    refine r_iload_n (pc := 7) dX9_youngestWithin_7 rfl ?_
    refine rj_if_lt (pc := 8) (tgt := 40) dX9_youngestWithin_8 (by decide) (by first | exact b01_r | exact bz_r | omega | (constructor <;> omega) | apply_assumption | (apply atF_r; assumption) | fail "no range") (fun c_8 => ?_) (fun c_8 => ?_)
    · refine rj_bipush (pc := 40) dX9_youngestWithin_40 (by decide +kernel) ?_
      refine r_ireturn (pc := 42) .int dX9_youngestWithin_42 rfl (by first | rfl | assumption) ?_
      exact ⟨rfl, rfl⟩
    · exfalso; omega
  | succ t ih =>
    intro ht
    have e1 : ((t + 1 : Nat) : Int) - 1 = (t : Int) := by omega
    rw [e1]
    refine r_iload_n (pc := 7) dX9_youngestWithin_7 rfl ?_
    refine rj_if_lt (pc := 8) (tgt := 40) dX9_youngestWithin_8 (by decide) (by first | exact b01_r | exact bz_r | omega | (constructor <;> omega) | apply_assumption | (apply atF_r; assumption) | fail "no range") (fun c_8 => ?_) (fun c_8 => ?_)
    · refine rj_bipush (pc := 40) dX9_youngestWithin_40 (by decide +kernel) ?_
      refine r_ireturn (pc := 42) .int dX9_youngestWithin_42 rfl (by first | rfl | assumption) ?_
      first | (exfalso; omega) | exact ⟨by rw [ywL, if_pos (show hwB c i t = true from decide_eq_true ⟨c_16, c_29⟩)], rfl⟩
    · refine r_aload_n (pc := 11) dX9_youngestWithin_11 rfl (by first | rfl | exact isRefV_rf _) ?_
      refine r_iload_n (pc := 12) dX9_youngestWithin_12 rfl ?_
      refine r_callV1 (pc := 13) dX9_youngestWithin_13 qX9_isHeld kX9_157 vX9_isHeld (by first | assumption | exact isI.gx (by assumption) | exact isI.gc (by assumption) | exact isW.gx (by assumption) | exact isW.gF (by assumption) | exact isW.gT (by assumption) (by omega) | exact isW.gS (by assumption) (by omega) | exact isW.gK (by assumption) (by omega) | exact isW.g1 (by assumption) | exact isW.g2 (by assumption) | exact isW.g3 (by assumption) | exact isI.gx (isW.i0 (by assumption)) | exact isI.gc (isW.i0 (by assumption)) | exact isI.gx (isW.i1 (by assumption)) | exact isI.gc (isW.i1 (by assumption)) | exact isI.gx (isW.i2 (by assumption)) | exact isI.gc (isW.i2 (by assumption)) | exact isI.gx (isW.i3 (by assumption)) | exact isI.gc (isW.i3 (by assumption)) | exact isI.gx (isW.i4 (by assumption)) | exact isI.gc (isW.i4 (by assumption)) | exact isI.gx (isW.i5 (by assumption)) | exact isI.gc (isW.i5 (by assumption)) | exact isR.gx (by assumption) | exact isRd.gx (by assumption) | exact isSp.gx (by assumption) | exact isI.gx (isR.i (by assumption)) | exact isI.gx (isRd.i (by assumption)) | exact isI.gc (isRd.i (by assumption)) | exact isI.gx (isSp.i (by assumption)) | exact isW.gx (isR.w (by assumption)) | exact isW.gF (isR.w (by assumption)) | fail "no such object") rfl rfl (Nat.le_of_ble_eq_true rfl) (cn_isHeld _ hW hc (t := t) (by omega) (by omega)) (fun v_13 h_13 q_13 => ?_)
      obtain ⟨rfl, rfl⟩ := q_13
      refine rj_if_eq (pc := 16) (tgt := 34) dX9_youngestWithin_16 (by decide) (by first | exact b01_r | exact bz_r | omega | (constructor <;> omega) | apply_assumption | (apply atF_r; assumption) | fail "no range") (fun c_16 => ?_) (fun c_16 => ?_)
      · try simp only [b01_0, bz_0, Classical.not_not] at c_16
        refine rj_iinc (pc := 34) dX9_youngestWithin_34 (Nat.le_of_ble_eq_true rfl) rfl ?_
        dsimp only [lsSt, List.set, mLs, mEnt]
        refine r_goto (pc := 37) (tgt := 7) dX9_youngestWithin_37 (by decide) ?_
        have y := ih (by omega)
        rw [show (t : Int) - 1 = (t : Int) + -1 by omega] at y
        rw [ywL, if_neg (by unfold hwB; rw [decide_eq_true_eq]; exact fun g => c_16 g.1)]
        exact y
      · try simp only [b01_0, bz_0, Classical.not_not] at c_16
        refine r_aload_n (pc := 19) dX9_youngestWithin_19 rfl (by first | rfl | exact isRefV_rf _) ?_
        refine r_aload_n (pc := 20) dX9_youngestWithin_20 rfl (by first | rfl | exact isRefV_rf _) ?_
        refine r_iload_n (pc := 21) dX9_youngestWithin_21 rfl ?_
        refine r_callV1 (pc := 22) dX9_youngestWithin_22 qX9_ownerOf kX9_151 vX9_ownerOf (by first | assumption | exact isI.gx (by assumption) | exact isI.gc (by assumption) | exact isW.gx (by assumption) | exact isW.gF (by assumption) | exact isW.gT (by assumption) (by omega) | exact isW.gS (by assumption) (by omega) | exact isW.gK (by assumption) (by omega) | exact isW.g1 (by assumption) | exact isW.g2 (by assumption) | exact isW.g3 (by assumption) | exact isI.gx (isW.i0 (by assumption)) | exact isI.gc (isW.i0 (by assumption)) | exact isI.gx (isW.i1 (by assumption)) | exact isI.gc (isW.i1 (by assumption)) | exact isI.gx (isW.i2 (by assumption)) | exact isI.gc (isW.i2 (by assumption)) | exact isI.gx (isW.i3 (by assumption)) | exact isI.gc (isW.i3 (by assumption)) | exact isI.gx (isW.i4 (by assumption)) | exact isI.gc (isW.i4 (by assumption)) | exact isI.gx (isW.i5 (by assumption)) | exact isI.gc (isW.i5 (by assumption)) | exact isR.gx (by assumption) | exact isRd.gx (by assumption) | exact isSp.gx (by assumption) | exact isI.gx (isR.i (by assumption)) | exact isI.gx (isRd.i (by assumption)) | exact isI.gc (isRd.i (by assumption)) | exact isI.gx (isSp.i (by assumption)) | exact isW.gx (isR.w (by assumption)) | exact isW.gF (isR.w (by assumption)) | fail "no such object") rfl rfl (Nat.le_of_ble_eq_true rfl) (cn_ownerOf _ hW hc (t := t) (by omega) (by omega)) (fun v_22 h_22 q_22 => ?_)
        obtain ⟨rfl, rfl⟩ := q_22
        refine r_iload_n (pc := 25) dX9_youngestWithin_25 rfl ?_
        refine r_callV2 (pc := 26) dX9_youngestWithin_26 qX9_isWithin kX9_164 vX9_isWithin (by first | assumption | exact isI.gx (by assumption) | exact isI.gc (by assumption) | exact isW.gx (by assumption) | exact isW.gF (by assumption) | exact isW.gT (by assumption) (by omega) | exact isW.gS (by assumption) (by omega) | exact isW.gK (by assumption) (by omega) | exact isW.g1 (by assumption) | exact isW.g2 (by assumption) | exact isW.g3 (by assumption) | exact isI.gx (isW.i0 (by assumption)) | exact isI.gc (isW.i0 (by assumption)) | exact isI.gx (isW.i1 (by assumption)) | exact isI.gc (isW.i1 (by assumption)) | exact isI.gx (isW.i2 (by assumption)) | exact isI.gc (isW.i2 (by assumption)) | exact isI.gx (isW.i3 (by assumption)) | exact isI.gc (isW.i3 (by assumption)) | exact isI.gx (isW.i4 (by assumption)) | exact isI.gc (isW.i4 (by assumption)) | exact isI.gx (isW.i5 (by assumption)) | exact isI.gc (isW.i5 (by assumption)) | exact isR.gx (by assumption) | exact isRd.gx (by assumption) | exact isSp.gx (by assumption) | exact isI.gx (isR.i (by assumption)) | exact isI.gx (isRd.i (by assumption)) | exact isI.gc (isRd.i (by assumption)) | exact isI.gx (isSp.i (by assumption)) | exact isW.gx (isR.w (by assumption)) | exact isW.gF (isR.w (by assumption)) | fail "no such object") rfl rfl (Nat.le_of_ble_eq_true rfl) (by have z := hO (t : Int); rw [ownF_t (by omega) (by omega)] at z; exact cq_isWithin d hW hc hO z.1 z.2 hi) (fun v_26 h_26 q_26 => ?_)
        obtain ⟨rfl, rfl⟩ := q_26
        refine rj_if_eq (pc := 29) (tgt := 34) dX9_youngestWithin_29 (by decide) (by first | exact b01_r | exact bz_r | omega | (constructor <;> omega) | apply_assumption | (apply atF_r; assumption) | fail "no range") (fun c_29 => ?_) (fun c_29 => ?_)
        · try simp only [b01_0, bz_0, Classical.not_not] at c_29
          refine rj_iinc (pc := 34) dX9_youngestWithin_34 (Nat.le_of_ble_eq_true rfl) rfl ?_
          dsimp only [lsSt, List.set, mLs, mEnt]
          refine r_goto (pc := 37) (tgt := 7) dX9_youngestWithin_37 (by decide) ?_
          have y := ih (by omega)
          rw [show (t : Int) - 1 = (t : Int) + -1 by omega] at y
          rw [ywL, if_neg (by unfold hwB; rw [decide_eq_true_eq]; exact fun g => c_29 g.2)]
          exact y
        · try simp only [b01_0, bz_0, Classical.not_not] at c_29
          refine r_iload_n (pc := 32) dX9_youngestWithin_32 rfl ?_
          refine r_ireturn (pc := 33) .int dX9_youngestWithin_33 rfl (by first | rfl | assumption) ?_
          first | (exfalso; omega) | exact ⟨by rw [ywL, if_pos (show hwB c i t = true from decide_eq_true ⟨c_16, c_29⟩)], rfl⟩
set_option maxHeartbeats 4000000 in
set_option maxRecDepth 100000 in
theorem cq_youngestWithin {G : mG} {l : Launch} (d : Nat) {h : mH} {w : Nat} {c : Nat → Int} {C : Nat → Nat → Int} {nm : Nat → Int64} {g : Nat → Option Nat} (hW : isW h w c C nm g) (hc : ∀ q, InR (c q)) (hO : oOk c) {N : Nat} (hN : c 0 = (N : Int)) (hcap : N ≤ 90) {i : Int} (hi : InR i) : RUNM G l (d + 3) mX9_youngestWithin [.ref w, .int (J i)] h (fun v h' => v = some (.int (J (ywL c i N))) ∧ h' = h) := by
  refine RUNM.of (by decide +kernel) (Nat.le_of_ble_eq_true rfl) ?_
  have r0 := hc 0
  refine r_aload_n (pc := 0) dX9_youngestWithin_0 rfl (by first | rfl | exact isRefV_rf _) ?_
  refine r_getf (pc := 1) dX9_youngestWithin_1 fX9_71 (by first | assumption | exact isI.gx (by assumption) | exact isI.gc (by assumption) | exact isW.gx (by assumption) | exact isW.gF (by assumption) | exact isW.gT (by assumption) (by omega) | exact isW.gS (by assumption) (by omega) | exact isW.gK (by assumption) (by omega) | exact isW.g1 (by assumption) | exact isW.g2 (by assumption) | exact isW.g3 (by assumption) | exact isI.gx (isW.i0 (by assumption)) | exact isI.gc (isW.i0 (by assumption)) | exact isI.gx (isW.i1 (by assumption)) | exact isI.gc (isW.i1 (by assumption)) | exact isI.gx (isW.i2 (by assumption)) | exact isI.gc (isW.i2 (by assumption)) | exact isI.gx (isW.i3 (by assumption)) | exact isI.gc (isW.i3 (by assumption)) | exact isI.gx (isW.i4 (by assumption)) | exact isI.gc (isW.i4 (by assumption)) | exact isI.gx (isW.i5 (by assumption)) | exact isI.gc (isW.i5 (by assumption)) | exact isR.gx (by assumption) | exact isRd.gx (by assumption) | exact isSp.gx (by assumption) | exact isI.gx (isR.i (by assumption)) | exact isI.gx (isRd.i (by assumption)) | exact isI.gc (isRd.i (by assumption)) | exact isI.gx (isSp.i (by assumption)) | exact isW.gx (isR.w (by assumption)) | exact isW.gF (isR.w (by assumption)) | fail "no such object") (by rfl) ?_
  rw [hN]
  refine rj_iconst (pc := 4) dX9_youngestWithin_4 ?_
  refine rj_isub (pc := 5) dX9_youngestWithin_5 ?_
  refine r_istore_n (pc := 6) dX9_youngestWithin_6 (Nat.le_of_ble_eq_true rfl) ?_
  dsimp only [lsSt, List.set, mLs, mEnt]
  exact L_youngestWithin d hW hc hO hN hcap hi N (Nat.le_refl _)
def hnL (c : Nat → Int) (nm : Nat → Int64) (y : Int64) : Nat → Nat → Int
  | 0, _ => -5
  | n + 1, t => if c (32 + 3 * t) = 0 ∧ nm t = y then (t : Int) else hnL c nm y n (t + 1)
def lcV (x y : Int64) : Int := if x = y then 0 else if x.toInt < y.toInt then -1 else 1
theorem lcV_r {x y : Int64} : InR (lcV x y) := by unfold lcV; split <;> (try split) <;> decide
theorem lcV_0 {x y : Int64} : lcV x y = 0 ↔ x = y := by
  unfold lcV
  by_cases e : x = y
  · rw [if_pos e]; exact ⟨fun _ => e, fun _ => rfl⟩
  · rw [if_neg e]
    constructor
    · intro z; split at z <;> exact absurd z (by decide)
    · intro z; exact absurd z e
theorem lcV_n {x y : Int64} : lcV x y < 0 ↔ x.toInt < y.toInt := by
  unfold lcV
  by_cases e : x = y
  · subst e; rw [if_pos rfl]; omega
  · rw [if_neg e]
    by_cases l : x.toInt < y.toInt
    · rw [if_pos l]; exact ⟨fun _ => l, fun _ => by decide⟩
    · rw [if_neg l]; exact ⟨fun z => absurd z (by decide), fun z => absurd z l⟩
theorem lg_cmp_e (x y : Int64) : lg_cmp x y = J (lcV x y) := by
  unfold lg_cmp lcV
  by_cases e : x = y
  · subst e
    rw [if_neg (by rw [gt_iff_lt, Int64.lt_iff_toInt_lt]; omega), if_pos rfl, if_pos rfl]; exact J_0
  · by_cases l : x.toInt < y.toInt
    · rw [if_neg (by rw [gt_iff_lt, Int64.lt_iff_toInt_lt]; omega), if_neg e, if_neg e, if_pos l, J_def]; decide
    · have : y.toInt < x.toInt := by
        have ne : ¬ x.toInt = y.toInt := fun z => e (Int64.toInt_inj.mp z)
        omega
      rw [if_pos (by rw [gt_iff_lt, Int64.lt_iff_toInt_lt]; exact this), if_neg e, if_neg l]; exact J_1
theorem rj_lcmpE {G : mG} {l : Launch} {d : Nat} {M : mM} {pc : Nat} {ls : List (Option Value)} {st : List Value} {h : mH} {Q : Option Value → mH → Prop} {x y : Int64} (hdg : decode M.2.1 pc = .ok (.lcmp, 1)) (K : RUN G l d M (pc + 1) ls (.int (J (lcV x y)) :: st) h Q) : RUN G l d M pc ls (.long y :: .long x :: st) h Q :=
  r_lcmp hdg (by rw [lg_cmp_e]; exact K)
set_option maxHeartbeats 4000000 in
set_option maxRecDepth 100000 in
theorem L_heldWithName {G : mG} {l : Launch} (d : Nat) {h : mH} {w : Nat} {c : Nat → Int} {C : Nat → Nat → Int} {nm : Nat → Int64} {g : Nat → Option Nat} (hW : isW h w c C nm g) (hc : ∀ q, InR (c q)) {N : Nat} (hN : c 0 = (N : Int)) (hcap : N ≤ 90) {y : Int64} : ∀ n t : Nat, t + n = N → RUN G l (d) mX9_heldWithName 2 [some (.ref w), some (.long y), none, some (.int (J (t : Int)))] [] h (fun v h' => v = some (.int (J (hnL c nm y n t))) ∧ h' = h) := by
  intro n
  induction n with
  | zero =>
    intro t ht
    refine r_iload_n (pc := 2) dX9_heldWithName_2 rfl ?_
    refine r_aload_n (pc := 3) dX9_heldWithName_3 rfl (by first | rfl | exact isRefV_rf _) ?_
    refine r_getf (pc := 4) dX9_heldWithName_4 fX9_71 (by first | assumption | exact isI.gx (by assumption) | exact isI.gc (by assumption) | exact isW.gx (by assumption) | exact isW.gF (by assumption) | exact isW.gT (by assumption) (by omega) | exact isW.gS (by assumption) (by omega) | exact isW.gK (by assumption) (by omega) | exact isW.g1 (by assumption) | exact isW.g2 (by assumption) | exact isW.g3 (by assumption) | exact isI.gx (isW.i0 (by assumption)) | exact isI.gc (isW.i0 (by assumption)) | exact isI.gx (isW.i1 (by assumption)) | exact isI.gc (isW.i1 (by assumption)) | exact isI.gx (isW.i2 (by assumption)) | exact isI.gc (isW.i2 (by assumption)) | exact isI.gx (isW.i3 (by assumption)) | exact isI.gc (isW.i3 (by assumption)) | exact isI.gx (isW.i4 (by assumption)) | exact isI.gc (isW.i4 (by assumption)) | exact isI.gx (isW.i5 (by assumption)) | exact isI.gc (isW.i5 (by assumption)) | exact isR.gx (by assumption) | exact isRd.gx (by assumption) | exact isSp.gx (by assumption) | exact isI.gx (isR.i (by assumption)) | exact isI.gx (isRd.i (by assumption)) | exact isI.gc (isRd.i (by assumption)) | exact isI.gx (isSp.i (by assumption)) | exact isW.gx (isR.w (by assumption)) | exact isW.gF (isR.w (by assumption)) | fail "no such object") (by rfl) ?_
    refine rj_icmp_ge (pc := 7) (tgt := 53) dX9_heldWithName_7 (by decide) (by first | exact b01_r | exact bz_r | omega | (constructor <;> omega) | apply_assumption | (apply atF_r; assumption) | fail "no range") (by first | exact b01_r | exact bz_r | omega | (constructor <;> omega) | apply_assumption | (apply atF_r; assumption) | fail "no range") (fun c_7 => ?_) (fun c_7 => ?_)
    · refine rj_bipush (pc := 53) dX9_heldWithName_53 (by decide +kernel) ?_
      refine r_ireturn (pc := 55) .int dX9_heldWithName_55 rfl (by first | rfl | assumption) ?_
      exact ⟨rfl, rfl⟩
    · exfalso; omega
  | succ n ih =>
    intro t ht
    have rs := hc (32 + 3 * t)
    have et : ((t : Int)).toNat = t := by omega
    refine r_iload_n (pc := 2) dX9_heldWithName_2 rfl ?_
    refine r_aload_n (pc := 3) dX9_heldWithName_3 rfl (by first | rfl | exact isRefV_rf _) ?_
    refine r_getf (pc := 4) dX9_heldWithName_4 fX9_71 (by first | assumption | exact isI.gx (by assumption) | exact isI.gc (by assumption) | exact isW.gx (by assumption) | exact isW.gF (by assumption) | exact isW.gT (by assumption) (by omega) | exact isW.gS (by assumption) (by omega) | exact isW.gK (by assumption) (by omega) | exact isW.g1 (by assumption) | exact isW.g2 (by assumption) | exact isW.g3 (by assumption) | exact isI.gx (isW.i0 (by assumption)) | exact isI.gc (isW.i0 (by assumption)) | exact isI.gx (isW.i1 (by assumption)) | exact isI.gc (isW.i1 (by assumption)) | exact isI.gx (isW.i2 (by assumption)) | exact isI.gc (isW.i2 (by assumption)) | exact isI.gx (isW.i3 (by assumption)) | exact isI.gc (isW.i3 (by assumption)) | exact isI.gx (isW.i4 (by assumption)) | exact isI.gc (isW.i4 (by assumption)) | exact isI.gx (isW.i5 (by assumption)) | exact isI.gc (isW.i5 (by assumption)) | exact isR.gx (by assumption) | exact isRd.gx (by assumption) | exact isSp.gx (by assumption) | exact isI.gx (isR.i (by assumption)) | exact isI.gx (isRd.i (by assumption)) | exact isI.gc (isRd.i (by assumption)) | exact isI.gx (isSp.i (by assumption)) | exact isW.gx (isR.w (by assumption)) | exact isW.gF (isR.w (by assumption)) | fail "no such object") (by rfl) ?_
    refine rj_icmp_ge (pc := 7) (tgt := 53) dX9_heldWithName_7 (by decide) (by first | exact b01_r | exact bz_r | omega | (constructor <;> omega) | apply_assumption | (apply atF_r; assumption) | fail "no range") (by first | exact b01_r | exact bz_r | omega | (constructor <;> omega) | apply_assumption | (apply atF_r; assumption) | fail "no range") (fun c_7 => ?_) (fun c_7 => ?_)
    · refine rj_bipush (pc := 53) dX9_heldWithName_53 (by decide +kernel) ?_
      refine r_ireturn (pc := 55) .int dX9_heldWithName_55 rfl (by first | rfl | assumption) ?_
      first | (exfalso; omega) | exact ⟨by rw [hnL, if_pos ⟨c_28, lcV_0.mp c_42⟩], rfl⟩
    · refine r_iload_n (pc := 10) dX9_heldWithName_10 rfl ?_
      refine r_aload_n (pc := 11) dX9_heldWithName_11 rfl (by first | rfl | exact isRefV_rf _) ?_
      refine r_getf (pc := 12) dX9_heldWithName_12 fX9_11 (by first | assumption | exact isI.gx (by assumption) | exact isI.gc (by assumption) | exact isW.gx (by assumption) | exact isW.gF (by assumption) | exact isW.gT (by assumption) (by omega) | exact isW.gS (by assumption) (by omega) | exact isW.gK (by assumption) (by omega) | exact isW.g1 (by assumption) | exact isW.g2 (by assumption) | exact isW.g3 (by assumption) | exact isI.gx (isW.i0 (by assumption)) | exact isI.gc (isW.i0 (by assumption)) | exact isI.gx (isW.i1 (by assumption)) | exact isI.gc (isW.i1 (by assumption)) | exact isI.gx (isW.i2 (by assumption)) | exact isI.gc (isW.i2 (by assumption)) | exact isI.gx (isW.i3 (by assumption)) | exact isI.gc (isW.i3 (by assumption)) | exact isI.gx (isW.i4 (by assumption)) | exact isI.gc (isW.i4 (by assumption)) | exact isI.gx (isW.i5 (by assumption)) | exact isI.gc (isW.i5 (by assumption)) | exact isR.gx (by assumption) | exact isRd.gx (by assumption) | exact isSp.gx (by assumption) | exact isI.gx (isR.i (by assumption)) | exact isI.gx (isRd.i (by assumption)) | exact isI.gc (isRd.i (by assumption)) | exact isI.gx (isSp.i (by assumption)) | exact isW.gx (isR.w (by assumption)) | exact isW.gF (isR.w (by assumption)) | fail "no such object") (by rfl) ?_
      first | refine rj_alen (pc := 15) dX9_heldWithName_15 (by first | assumption | exact isI.gx (by assumption) | exact isI.gc (by assumption) | exact isW.gx (by assumption) | exact isW.gF (by assumption) | exact isW.gT (by assumption) (by omega) | exact isW.gS (by assumption) (by omega) | exact isW.gK (by assumption) (by omega) | exact isW.g1 (by assumption) | exact isW.g2 (by assumption) | exact isW.g3 (by assumption) | exact isI.gx (isW.i0 (by assumption)) | exact isI.gc (isW.i0 (by assumption)) | exact isI.gx (isW.i1 (by assumption)) | exact isI.gc (isW.i1 (by assumption)) | exact isI.gx (isW.i2 (by assumption)) | exact isI.gc (isW.i2 (by assumption)) | exact isI.gx (isW.i3 (by assumption)) | exact isI.gc (isW.i3 (by assumption)) | exact isI.gx (isW.i4 (by assumption)) | exact isI.gc (isW.i4 (by assumption)) | exact isI.gx (isW.i5 (by assumption)) | exact isI.gc (isW.i5 (by assumption)) | exact isR.gx (by assumption) | exact isRd.gx (by assumption) | exact isSp.gx (by assumption) | exact isI.gx (isR.i (by assumption)) | exact isI.gx (isRd.i (by assumption)) | exact isI.gc (isRd.i (by assumption)) | exact isI.gx (isSp.i (by assumption)) | exact isW.gx (isR.w (by assumption)) | exact isW.gF (isR.w (by assumption)) | fail "no such object") ?_ | refine rj_alenR (pc := 15) dX9_heldWithName_15 (by first | assumption | exact isI.gx (by assumption) | exact isI.gc (by assumption) | exact isW.gx (by assumption) | exact isW.gF (by assumption) | exact isW.gT (by assumption) (by omega) | exact isW.gS (by assumption) (by omega) | exact isW.gK (by assumption) (by omega) | exact isW.g1 (by assumption) | exact isW.g2 (by assumption) | exact isW.g3 (by assumption) | exact isI.gx (isW.i0 (by assumption)) | exact isI.gc (isW.i0 (by assumption)) | exact isI.gx (isW.i1 (by assumption)) | exact isI.gc (isW.i1 (by assumption)) | exact isI.gx (isW.i2 (by assumption)) | exact isI.gc (isW.i2 (by assumption)) | exact isI.gx (isW.i3 (by assumption)) | exact isI.gc (isW.i3 (by assumption)) | exact isI.gx (isW.i4 (by assumption)) | exact isI.gc (isW.i4 (by assumption)) | exact isI.gx (isW.i5 (by assumption)) | exact isI.gc (isW.i5 (by assumption)) | exact isR.gx (by assumption) | exact isRd.gx (by assumption) | exact isSp.gx (by assumption) | exact isI.gx (isR.i (by assumption)) | exact isI.gx (isRd.i (by assumption)) | exact isI.gc (isRd.i (by assumption)) | exact isI.gx (isSp.i (by assumption)) | exact isW.gx (isR.w (by assumption)) | exact isW.gF (isR.w (by assumption)) | fail "no such object") ?_
      refine rj_icmp_ge (pc := 16) (tgt := 53) dX9_heldWithName_16 (by decide) (by first | exact b01_r | exact bz_r | omega | (constructor <;> omega) | apply_assumption | (apply atF_r; assumption) | fail "no range") (by first | exact b01_r | exact bz_r | omega | (constructor <;> omega) | apply_assumption | (apply atF_r; assumption) | fail "no range") (fun c_16 => ?_) (fun c_16 => ?_)
      · refine rj_bipush (pc := 53) dX9_heldWithName_53 (by decide +kernel) ?_
        refine r_ireturn (pc := 55) .int dX9_heldWithName_55 rfl (by first | rfl | assumption) ?_
        first | (exfalso; omega) | exact ⟨by rw [hnL, if_pos ⟨c_28, lcV_0.mp c_42⟩], rfl⟩
      · refine r_aload_n (pc := 19) dX9_heldWithName_19 rfl (by first | rfl | exact isRefV_rf _) ?_
        refine r_getf (pc := 20) dX9_heldWithName_20 fX9_11 (by first | assumption | exact isI.gx (by assumption) | exact isI.gc (by assumption) | exact isW.gx (by assumption) | exact isW.gF (by assumption) | exact isW.gT (by assumption) (by omega) | exact isW.gS (by assumption) (by omega) | exact isW.gK (by assumption) (by omega) | exact isW.g1 (by assumption) | exact isW.g2 (by assumption) | exact isW.g3 (by assumption) | exact isI.gx (isW.i0 (by assumption)) | exact isI.gc (isW.i0 (by assumption)) | exact isI.gx (isW.i1 (by assumption)) | exact isI.gc (isW.i1 (by assumption)) | exact isI.gx (isW.i2 (by assumption)) | exact isI.gc (isW.i2 (by assumption)) | exact isI.gx (isW.i3 (by assumption)) | exact isI.gc (isW.i3 (by assumption)) | exact isI.gx (isW.i4 (by assumption)) | exact isI.gc (isW.i4 (by assumption)) | exact isI.gx (isW.i5 (by assumption)) | exact isI.gc (isW.i5 (by assumption)) | exact isR.gx (by assumption) | exact isRd.gx (by assumption) | exact isSp.gx (by assumption) | exact isI.gx (isR.i (by assumption)) | exact isI.gx (isRd.i (by assumption)) | exact isI.gc (isRd.i (by assumption)) | exact isI.gx (isSp.i (by assumption)) | exact isW.gx (isR.w (by assumption)) | exact isW.gF (isR.w (by assumption)) | fail "no such object") (by rfl) ?_
        refine r_iload_n (pc := 23) dX9_heldWithName_23 rfl ?_
        first | refine rc_aaldT (pc := 24) dX9_heldWithName_24 (by assumption) (by first | exact b01_r | exact bz_r | omega | (constructor <;> omega) | apply_assumption | (apply atF_r; assumption) | fail "no range") (by first | exact b01_r | exact bz_r | omega | (constructor <;> omega) | apply_assumption | (apply atF_r; assumption) | fail "no range") (by first | exact b01_r | exact bz_r | omega | (constructor <;> omega) | apply_assumption | (apply atF_r; assumption) | fail "no range") ?_ | refine rc_aaldS (pc := 24) dX9_heldWithName_24 (by assumption) (by first | exact b01_r | exact bz_r | omega | (constructor <;> omega) | apply_assumption | (apply atF_r; assumption) | fail "no range") (by first | exact b01_r | exact bz_r | omega | (constructor <;> omega) | apply_assumption | (apply atF_r; assumption) | fail "no range") (by first | exact b01_r | exact bz_r | omega | (constructor <;> omega) | apply_assumption | (apply atF_r; assumption) | fail "no range") ?_ | refine rc_aaldK (pc := 24) dX9_heldWithName_24 (by assumption) (by first | exact b01_r | exact bz_r | omega | (constructor <;> omega) | apply_assumption | (apply atF_r; assumption) | fail "no range") (by first | exact b01_r | exact bz_r | omega | (constructor <;> omega) | apply_assumption | (apply atF_r; assumption) | fail "no range") (by first | exact b01_r | exact bz_r | omega | (constructor <;> omega) | apply_assumption | (apply atF_r; assumption) | fail "no range") ?_
        rw [et]
        refine r_getf (pc := 25) dX9_heldWithName_25 fX9_114 (isW.gT (by assumption) (q := t) (by omega)) (by rfl) ?_
        refine rj_if_ne (pc := 28) (tgt := 47) dX9_heldWithName_28 (by decide) (by first | exact b01_r | exact bz_r | omega | (constructor <;> omega) | apply_assumption | (apply atF_r; assumption) | fail "no range") (fun c_28 => ?_) (fun c_28 => ?_)
        · try simp only [b01_0, bz_0, Classical.not_not] at c_28
          refine rj_iinc (pc := 47) dX9_heldWithName_47 (Nat.le_of_ble_eq_true rfl) rfl ?_
          dsimp only [lsSt, List.set, mLs, mEnt]
          refine r_goto (pc := 50) (tgt := 2) dX9_heldWithName_50 (by decide) ?_
          have z := ih (t + 1) (by omega)
          rw [show ((t + 1 : Nat) : Int) = (t : Int) + 1 by omega] at z
          rw [hnL, if_neg (fun g => c_28 g.1)]
          exact z
        · try simp only [b01_0, bz_0, Classical.not_not] at c_28
          refine r_aload_n (pc := 31) dX9_heldWithName_31 rfl (by first | rfl | exact isRefV_rf _) ?_
          refine r_getf (pc := 32) dX9_heldWithName_32 fX9_11 (by first | assumption | exact isI.gx (by assumption) | exact isI.gc (by assumption) | exact isW.gx (by assumption) | exact isW.gF (by assumption) | exact isW.gT (by assumption) (by omega) | exact isW.gS (by assumption) (by omega) | exact isW.gK (by assumption) (by omega) | exact isW.g1 (by assumption) | exact isW.g2 (by assumption) | exact isW.g3 (by assumption) | exact isI.gx (isW.i0 (by assumption)) | exact isI.gc (isW.i0 (by assumption)) | exact isI.gx (isW.i1 (by assumption)) | exact isI.gc (isW.i1 (by assumption)) | exact isI.gx (isW.i2 (by assumption)) | exact isI.gc (isW.i2 (by assumption)) | exact isI.gx (isW.i3 (by assumption)) | exact isI.gc (isW.i3 (by assumption)) | exact isI.gx (isW.i4 (by assumption)) | exact isI.gc (isW.i4 (by assumption)) | exact isI.gx (isW.i5 (by assumption)) | exact isI.gc (isW.i5 (by assumption)) | exact isR.gx (by assumption) | exact isRd.gx (by assumption) | exact isSp.gx (by assumption) | exact isI.gx (isR.i (by assumption)) | exact isI.gx (isRd.i (by assumption)) | exact isI.gc (isRd.i (by assumption)) | exact isI.gx (isSp.i (by assumption)) | exact isW.gx (isR.w (by assumption)) | exact isW.gF (isR.w (by assumption)) | fail "no such object") (by rfl) ?_
          refine r_iload_n (pc := 35) dX9_heldWithName_35 rfl ?_
          first | refine rc_aaldT (pc := 36) dX9_heldWithName_36 (by assumption) (by first | exact b01_r | exact bz_r | omega | (constructor <;> omega) | apply_assumption | (apply atF_r; assumption) | fail "no range") (by first | exact b01_r | exact bz_r | omega | (constructor <;> omega) | apply_assumption | (apply atF_r; assumption) | fail "no range") (by first | exact b01_r | exact bz_r | omega | (constructor <;> omega) | apply_assumption | (apply atF_r; assumption) | fail "no range") ?_ | refine rc_aaldS (pc := 36) dX9_heldWithName_36 (by assumption) (by first | exact b01_r | exact bz_r | omega | (constructor <;> omega) | apply_assumption | (apply atF_r; assumption) | fail "no range") (by first | exact b01_r | exact bz_r | omega | (constructor <;> omega) | apply_assumption | (apply atF_r; assumption) | fail "no range") (by first | exact b01_r | exact bz_r | omega | (constructor <;> omega) | apply_assumption | (apply atF_r; assumption) | fail "no range") ?_ | refine rc_aaldK (pc := 36) dX9_heldWithName_36 (by assumption) (by first | exact b01_r | exact bz_r | omega | (constructor <;> omega) | apply_assumption | (apply atF_r; assumption) | fail "no range") (by first | exact b01_r | exact bz_r | omega | (constructor <;> omega) | apply_assumption | (apply atF_r; assumption) | fail "no range") (by first | exact b01_r | exact bz_r | omega | (constructor <;> omega) | apply_assumption | (apply atF_r; assumption) | fail "no range") ?_
          rw [et]
          refine r_getf (pc := 37) dX9_heldWithName_37 fX9_106 (isW.gT (by assumption) (q := t) (by omega)) (by rfl) ?_
          refine r_lload_n (pc := 40) dX9_heldWithName_40 rfl ?_
          refine rj_lcmpE (pc := 41) dX9_heldWithName_41 ?_
          have rr := lcV_r (x := nm t) (y := y)
          refine rj_if_ne (pc := 42) (tgt := 47) dX9_heldWithName_42 (by decide) (by first | exact b01_r | exact bz_r | omega | (constructor <;> omega) | apply_assumption | (apply atF_r; assumption) | fail "no range") (fun c_42 => ?_) (fun c_42 => ?_)
          · try simp only [b01_0, bz_0, Classical.not_not] at c_42
            refine rj_iinc (pc := 47) dX9_heldWithName_47 (Nat.le_of_ble_eq_true rfl) rfl ?_
            dsimp only [lsSt, List.set, mLs, mEnt]
            refine r_goto (pc := 50) (tgt := 2) dX9_heldWithName_50 (by decide) ?_
            have z := ih (t + 1) (by omega)
            rw [show ((t + 1 : Nat) : Int) = (t : Int) + 1 by omega] at z
            rw [hnL, if_neg (fun g => c_42 (lcV_0.mpr g.2))]
            exact z
          · try simp only [b01_0, bz_0, Classical.not_not] at c_42
            refine r_iload_n (pc := 45) dX9_heldWithName_45 rfl ?_
            refine r_ireturn (pc := 46) .int dX9_heldWithName_46 rfl (by first | rfl | assumption) ?_
            first | (exfalso; omega) | exact ⟨by rw [hnL, if_pos ⟨c_28, lcV_0.mp c_42⟩], rfl⟩
set_option maxHeartbeats 4000000 in
set_option maxRecDepth 100000 in
theorem cq_heldWithName {G : mG} {l : Launch} (d : Nat) {h : mH} {w : Nat} {c : Nat → Int} {C : Nat → Nat → Int} {nm : Nat → Int64} {g : Nat → Option Nat} (hW : isW h w c C nm g) (hc : ∀ q, InR (c q)) {N : Nat} (hN : c 0 = (N : Int)) (hcap : N ≤ 90) {y : Int64} : RUNM G l (d) mX9_heldWithName [.ref w, .long y] h (fun v h' => v = some (.int (J (hnL c nm y N 0))) ∧ h' = h) := by
  refine RUNM.of (by decide +kernel) (Nat.le_of_ble_eq_true rfl) ?_
  refine rj_iconst (pc := 0) dX9_heldWithName_0 ?_
  refine r_istore_n (pc := 1) dX9_heldWithName_1 (Nat.le_of_ble_eq_true rfl) ?_
  dsimp only [lsSt, List.set, mLs, mEnt]
  exact L_heldWithName d hW hc hN hcap N 0 (by omega)
end mg_85
section mg_86
/-! ===== the class: what its world answers, second half ===== -/
set_option maxHeartbeats 4000000 in
set_option maxRecDepth 100000 in
theorem cn_nameOf {G : mG} {l : Launch} (d : Nat) {h : mH} {w : Nat} {c : Nat → Int} {C : Nat → Nat → Int} {nm : Nat → Int64} {g : Nat → Option Nat} (hW : isW h w c C nm g) (hc : ∀ q, InR (c q)) {t : Nat} (ht : (t : Int) < c 0) (h2 : t < 90) : RUNM G l (d + 1) mX9_nameOf [.ref w, .int (J (t : Int))] h (fun v h' => v = some (.long (nm t)) ∧ h' = h) := by
  refine RUNM.of (by decide +kernel) (Nat.le_of_ble_eq_true rfl) ?_
  have r0 := hc 0
  refine r_aload_n (pc := 0) dX9_nameOf_0 rfl (by first | rfl | exact isRefV_rf _) ?_
  refine r_iload_n (pc := 1) dX9_nameOf_1 rfl ?_
  refine r_callV1 (pc := 2) dX9_nameOf_2 qX9_thingAt kX9_96 vX9_thingAt (by first | assumption | exact isI.gx (by assumption) | exact isI.gc (by assumption) | exact isW.gx (by assumption) | exact isW.gF (by assumption) | exact isW.gT (by assumption) (by omega) | exact isW.gS (by assumption) (by omega) | exact isW.gK (by assumption) (by omega) | exact isW.g1 (by assumption) | exact isW.g2 (by assumption) | exact isW.g3 (by assumption) | exact isI.gx (isW.i0 (by assumption)) | exact isI.gc (isW.i0 (by assumption)) | exact isI.gx (isW.i1 (by assumption)) | exact isI.gc (isW.i1 (by assumption)) | exact isI.gx (isW.i2 (by assumption)) | exact isI.gc (isW.i2 (by assumption)) | exact isI.gx (isW.i3 (by assumption)) | exact isI.gc (isW.i3 (by assumption)) | exact isI.gx (isW.i4 (by assumption)) | exact isI.gc (isW.i4 (by assumption)) | exact isI.gx (isW.i5 (by assumption)) | exact isI.gc (isW.i5 (by assumption)) | exact isR.gx (by assumption) | exact isRd.gx (by assumption) | exact isSp.gx (by assumption) | exact isI.gx (isR.i (by assumption)) | exact isI.gx (isRd.i (by assumption)) | exact isI.gc (isRd.i (by assumption)) | exact isI.gx (isSp.i (by assumption)) | exact isW.gx (isR.w (by assumption)) | exact isW.gF (isR.w (by assumption)) | fail "no such object") rfl rfl (Nat.le_of_ble_eq_true rfl) (cw_thingAt _ hW hc (i := (t : Int)) ⟨by omega, by omega⟩) (fun v_2 h_2 q_2 => ?_)
  obtain ⟨q1_2, rfl⟩ := q_2
  · obtain rfl := thAt_P (by omega) q1_2
    refine r_astore_n (pc := 5) dX9_nameOf_5 (Nat.le_of_ble_eq_true rfl) (by first | rfl | exact isRefV_rf _) ?_
    dsimp only [lsSt, List.set, mLs, mEnt]
    refine r_aload_n (pc := 6) dX9_nameOf_6 rfl (by first | rfl | exact isRefV_rf _) ?_
    refine r_ifnonnull (pc := 7) (tgt := 14) dX9_nameOf_7 (by decide) (by first | rfl | exact isRefV_rf _) (fun a_7 c_7 => ?_) (fun c_7 => by cases c_7)
    refine r_aload_n (pc := 14) dX9_nameOf_14 rfl (by first | rfl | exact isRefV_rf _) ?_
    rw [show ((t : Int)).toNat = t by omega]
    refine r_getf (pc := 15) dX9_nameOf_15 fX9_106 (isW.gT (by assumption) (q := t) (by omega)) (by rfl) ?_
    refine r_lreturn (pc := 18) dX9_nameOf_18 rfl ?_
    exact ⟨rfl, rfl⟩
def haB (c : Nat → Int) (nm : Nat → Int64) (y : Int64) (t : Nat) : Bool := decide (c (32 + 3 * t) = 0 ∧ (nm t).toInt < y.toInt)
set_option maxHeartbeats 4000000 in
set_option maxRecDepth 100000 in
theorem L_heldAhead {G : mG} {l : Launch} (d : Nat) {h : mH} {w : Nat} {c : Nat → Int} {C : Nat → Nat → Int} {nm : Nat → Int64} {g : Nat → Option Nat} (hW : isW h w c C nm g) (hc : ∀ q, InR (c q)) {N : Nat} (hN : c 0 = (N : Int)) (hcap : N ≤ 90) {y : Int64} : ∀ k t : Nat, t + k = N → RUN G l (d + 2) mX9_heldAhead 5 [some (.ref w), some (.long y), none, some (.int (J (cnt (haB c nm y) t))), some (.int (J (t : Int)))] [] h (fun v h' => v = some (.int (J (cnt (haB c nm y) N))) ∧ h' = h) := by
  intro k
  induction k with
  | zero =>
    intro t ht
    refine r_iload (pc := 5) dX9_heldAhead_5 rfl ?_
    refine r_aload_n (pc := 7) dX9_heldAhead_7 rfl (by first | rfl | exact isRefV_rf _) ?_
    refine r_getf (pc := 8) dX9_heldAhead_8 fX9_71 (by first | assumption | exact isI.gx (by assumption) | exact isI.gc (by assumption) | exact isW.gx (by assumption) | exact isW.gF (by assumption) | exact isW.gT (by assumption) (by omega) | exact isW.gS (by assumption) (by omega) | exact isW.gK (by assumption) (by omega) | exact isW.g1 (by assumption) | exact isW.g2 (by assumption) | exact isW.g3 (by assumption) | exact isI.gx (isW.i0 (by assumption)) | exact isI.gc (isW.i0 (by assumption)) | exact isI.gx (isW.i1 (by assumption)) | exact isI.gc (isW.i1 (by assumption)) | exact isI.gx (isW.i2 (by assumption)) | exact isI.gc (isW.i2 (by assumption)) | exact isI.gx (isW.i3 (by assumption)) | exact isI.gc (isW.i3 (by assumption)) | exact isI.gx (isW.i4 (by assumption)) | exact isI.gc (isW.i4 (by assumption)) | exact isI.gx (isW.i5 (by assumption)) | exact isI.gc (isW.i5 (by assumption)) | exact isR.gx (by assumption) | exact isRd.gx (by assumption) | exact isSp.gx (by assumption) | exact isI.gx (isR.i (by assumption)) | exact isI.gx (isRd.i (by assumption)) | exact isI.gc (isRd.i (by assumption)) | exact isI.gx (isSp.i (by assumption)) | exact isW.gx (isR.w (by assumption)) | exact isW.gF (isR.w (by assumption)) | fail "no such object") (by rfl) ?_
    refine rj_icmp_ge (pc := 11) (tgt := 43) dX9_heldAhead_11 (by decide) (by first | exact b01_r | exact bz_r | omega | (constructor <;> omega) | apply_assumption | (apply atF_r; assumption) | fail "no range") (by first | exact b01_r | exact bz_r | omega | (constructor <;> omega) | apply_assumption | (apply atF_r; assumption) | fail "no range") (fun c_11 => ?_) (fun c_11 => ?_)
    · refine r_iload_n (pc := 43) dX9_heldAhead_43 rfl ?_
      refine r_ireturn (pc := 44) .int dX9_heldAhead_44 rfl (by first | rfl | assumption) ?_
      obtain rfl : t = N := by omega
      exact ⟨rfl, rfl⟩
    · exfalso; omega
  | succ k ih =>
    intro t ht
    refine r_iload (pc := 5) dX9_heldAhead_5 rfl ?_
    refine r_aload_n (pc := 7) dX9_heldAhead_7 rfl (by first | rfl | exact isRefV_rf _) ?_
    refine r_getf (pc := 8) dX9_heldAhead_8 fX9_71 (by first | assumption | exact isI.gx (by assumption) | exact isI.gc (by assumption) | exact isW.gx (by assumption) | exact isW.gF (by assumption) | exact isW.gT (by assumption) (by omega) | exact isW.gS (by assumption) (by omega) | exact isW.gK (by assumption) (by omega) | exact isW.g1 (by assumption) | exact isW.g2 (by assumption) | exact isW.g3 (by assumption) | exact isI.gx (isW.i0 (by assumption)) | exact isI.gc (isW.i0 (by assumption)) | exact isI.gx (isW.i1 (by assumption)) | exact isI.gc (isW.i1 (by assumption)) | exact isI.gx (isW.i2 (by assumption)) | exact isI.gc (isW.i2 (by assumption)) | exact isI.gx (isW.i3 (by assumption)) | exact isI.gc (isW.i3 (by assumption)) | exact isI.gx (isW.i4 (by assumption)) | exact isI.gc (isW.i4 (by assumption)) | exact isI.gx (isW.i5 (by assumption)) | exact isI.gc (isW.i5 (by assumption)) | exact isR.gx (by assumption) | exact isRd.gx (by assumption) | exact isSp.gx (by assumption) | exact isI.gx (isR.i (by assumption)) | exact isI.gx (isRd.i (by assumption)) | exact isI.gc (isRd.i (by assumption)) | exact isI.gx (isSp.i (by assumption)) | exact isW.gx (isR.w (by assumption)) | exact isW.gF (isR.w (by assumption)) | fail "no such object") (by rfl) ?_
    refine rj_icmp_ge (pc := 11) (tgt := 43) dX9_heldAhead_11 (by decide) (by first | exact b01_r | exact bz_r | omega | (constructor <;> omega) | apply_assumption | (apply atF_r; assumption) | fail "no range") (by first | exact b01_r | exact bz_r | omega | (constructor <;> omega) | apply_assumption | (apply atF_r; assumption) | fail "no range") (fun c_11 => ?_) (fun c_11 => ?_)
    · refine r_iload_n (pc := 43) dX9_heldAhead_43 rfl ?_
      refine r_ireturn (pc := 44) .int dX9_heldAhead_44 rfl (by first | rfl | assumption) ?_
      exfalso; omega
    · refine r_aload_n (pc := 14) dX9_heldAhead_14 rfl (by first | rfl | exact isRefV_rf _) ?_
      refine r_iload (pc := 15) dX9_heldAhead_15 rfl ?_
      refine r_callV1 (pc := 17) dX9_heldAhead_17 qX9_isHeld kX9_157 vX9_isHeld (by first | assumption | exact isI.gx (by assumption) | exact isI.gc (by assumption) | exact isW.gx (by assumption) | exact isW.gF (by assumption) | exact isW.gT (by assumption) (by omega) | exact isW.gS (by assumption) (by omega) | exact isW.gK (by assumption) (by omega) | exact isW.g1 (by assumption) | exact isW.g2 (by assumption) | exact isW.g3 (by assumption) | exact isI.gx (isW.i0 (by assumption)) | exact isI.gc (isW.i0 (by assumption)) | exact isI.gx (isW.i1 (by assumption)) | exact isI.gc (isW.i1 (by assumption)) | exact isI.gx (isW.i2 (by assumption)) | exact isI.gc (isW.i2 (by assumption)) | exact isI.gx (isW.i3 (by assumption)) | exact isI.gc (isW.i3 (by assumption)) | exact isI.gx (isW.i4 (by assumption)) | exact isI.gc (isW.i4 (by assumption)) | exact isI.gx (isW.i5 (by assumption)) | exact isI.gc (isW.i5 (by assumption)) | exact isR.gx (by assumption) | exact isRd.gx (by assumption) | exact isSp.gx (by assumption) | exact isI.gx (isR.i (by assumption)) | exact isI.gx (isRd.i (by assumption)) | exact isI.gc (isRd.i (by assumption)) | exact isI.gx (isSp.i (by assumption)) | exact isW.gx (isR.w (by assumption)) | exact isW.gF (isR.w (by assumption)) | fail "no such object") rfl rfl (Nat.le_of_ble_eq_true rfl) (cn_isHeld (d) hW hc (t := t) (by omega) (by omega)) (fun v_17 h_17 q_17 => ?_)
      obtain ⟨rfl, rfl⟩ := q_17
      refine rj_if_eq (pc := 20) (tgt := 37) dX9_heldAhead_20 (by decide) (by first | exact b01_r | exact bz_r | omega | (constructor <;> omega) | apply_assumption | (apply atF_r; assumption) | fail "no range") (fun c_20 => ?_) (fun c_20 => ?_)
      · try simp only [b01_0, bz_0, Classical.not_not] at c_20
        refine rj_iinc (pc := 37) dX9_heldAhead_37 (Nat.le_of_ble_eq_true rfl) rfl ?_
        dsimp only [lsSt, List.set, mLs, mEnt]
        refine r_goto (pc := 40) (tgt := 5) dX9_heldAhead_40 (by decide) ?_
        have z := ih (t + 1) (by omega)
        rw [show ((t + 1 : Nat) : Int) = (t : Int) + 1 by omega] at z
        rw [← cnt_f (p := haB c nm y) (n := t) (decide_eq_false (fun g => c_20 g.1))] at z
        rw [Int.add_zero] at z
        exact z
      · try simp only [b01_0, bz_0, Classical.not_not] at c_20
        refine r_aload_n (pc := 23) dX9_heldAhead_23 rfl (by first | rfl | exact isRefV_rf _) ?_
        refine r_iload (pc := 24) dX9_heldAhead_24 rfl ?_
        refine r_callV1 (pc := 26) dX9_heldAhead_26 qX9_nameOf kX9_168 vX9_nameOf (by first | assumption | exact isI.gx (by assumption) | exact isI.gc (by assumption) | exact isW.gx (by assumption) | exact isW.gF (by assumption) | exact isW.gT (by assumption) (by omega) | exact isW.gS (by assumption) (by omega) | exact isW.gK (by assumption) (by omega) | exact isW.g1 (by assumption) | exact isW.g2 (by assumption) | exact isW.g3 (by assumption) | exact isI.gx (isW.i0 (by assumption)) | exact isI.gc (isW.i0 (by assumption)) | exact isI.gx (isW.i1 (by assumption)) | exact isI.gc (isW.i1 (by assumption)) | exact isI.gx (isW.i2 (by assumption)) | exact isI.gc (isW.i2 (by assumption)) | exact isI.gx (isW.i3 (by assumption)) | exact isI.gc (isW.i3 (by assumption)) | exact isI.gx (isW.i4 (by assumption)) | exact isI.gc (isW.i4 (by assumption)) | exact isI.gx (isW.i5 (by assumption)) | exact isI.gc (isW.i5 (by assumption)) | exact isR.gx (by assumption) | exact isRd.gx (by assumption) | exact isSp.gx (by assumption) | exact isI.gx (isR.i (by assumption)) | exact isI.gx (isRd.i (by assumption)) | exact isI.gc (isRd.i (by assumption)) | exact isI.gx (isSp.i (by assumption)) | exact isW.gx (isR.w (by assumption)) | exact isW.gF (isR.w (by assumption)) | fail "no such object") rfl rfl (Nat.le_of_ble_eq_true rfl) (cn_nameOf (d) hW hc (t := t) (by omega) (by omega)) (fun v_26 h_26 q_26 => ?_)
        obtain ⟨rfl, rfl⟩ := q_26
        refine r_lload_n (pc := 29) dX9_heldAhead_29 rfl ?_
        refine rj_lcmpE (pc := 30) dX9_heldAhead_30 ?_
        have rr := lcV_r (x := nm t) (y := y)
        refine rj_if_ge (pc := 31) (tgt := 37) dX9_heldAhead_31 (by decide) (by first | exact b01_r | exact bz_r | omega | (constructor <;> omega) | apply_assumption | (apply atF_r; assumption) | fail "no range") (fun c_31 => ?_) (fun c_31 => ?_)
        · refine rj_iinc (pc := 37) dX9_heldAhead_37 (Nat.le_of_ble_eq_true rfl) rfl ?_
          dsimp only [lsSt, List.set, mLs, mEnt]
          refine r_goto (pc := 40) (tgt := 5) dX9_heldAhead_40 (by decide) ?_
          have z := ih (t + 1) (by omega)
          rw [show ((t + 1 : Nat) : Int) = (t : Int) + 1 by omega] at z
          rw [← cnt_f (p := haB c nm y) (n := t) (decide_eq_false (fun g => absurd (lcV_n.mpr g.2) (by omega)))] at z
          rw [Int.add_zero] at z
          exact z
        · refine rj_iinc (pc := 34) dX9_heldAhead_34 (Nat.le_of_ble_eq_true rfl) rfl ?_
          dsimp only [lsSt, List.set, mLs, mEnt]
          refine rj_iinc (pc := 37) dX9_heldAhead_37 (Nat.le_of_ble_eq_true rfl) rfl ?_
          dsimp only [lsSt, List.set, mLs, mEnt]
          refine r_goto (pc := 40) (tgt := 5) dX9_heldAhead_40 (by decide) ?_
          have z := ih (t + 1) (by omega)
          rw [show ((t + 1 : Nat) : Int) = (t : Int) + 1 by omega] at z
          rw [← cnt_t (p := haB c nm y) (n := t) (decide_eq_true (⟨c_20, lcV_n.mp (by omega)⟩))] at z
          exact z
set_option maxHeartbeats 4000000 in
set_option maxRecDepth 100000 in
theorem cq_heldAhead {G : mG} {l : Launch} (d : Nat) {h : mH} {w : Nat} {c : Nat → Int} {C : Nat → Nat → Int} {nm : Nat → Int64} {g : Nat → Option Nat} (hW : isW h w c C nm g) (hc : ∀ q, InR (c q)) {N : Nat} (hN : c 0 = (N : Int)) (hcap : N ≤ 90) {y : Int64} : RUNM G l (d + 2) mX9_heldAhead [.ref w, .long y] h (fun v h' => v = some (.int (J (cnt (haB c nm y) N))) ∧ h' = h) := by
  refine RUNM.of (by decide +kernel) (Nat.le_of_ble_eq_true rfl) ?_
  refine rj_iconst (pc := 0) dX9_heldAhead_0 ?_
  refine r_istore_n (pc := 1) dX9_heldAhead_1 (Nat.le_of_ble_eq_true rfl) ?_
  dsimp only [lsSt, List.set, mLs, mEnt]
  refine rj_iconst (pc := 2) dX9_heldAhead_2 ?_
  refine r_istore (pc := 3) dX9_heldAhead_3 (Nat.le_of_ble_eq_true rfl) ?_
  dsimp only [lsSt, List.set, mLs, mEnt]
  exact L_heldAhead d hW hc hN hcap N 0 (by omega)
def hpL (c : Nat → Int) (nm : Nat → Int64) (N : Nat) (i : Int) : Nat → Nat → Int
  | 0, _ => -1
  | n + 1, t => if c (32 + 3 * t) = 0 ∧ cnt (haB c nm (nm t)) N = i then (t : Int) else hpL c nm N i n (t + 1)
set_option maxHeartbeats 4000000 in
set_option maxRecDepth 100000 in
theorem L_heldAtPlace {G : mG} {l : Launch} (d : Nat) {h : mH} {w : Nat} {c : Nat → Int} {C : Nat → Nat → Int} {nm : Nat → Int64} {g : Nat → Option Nat} (hW : isW h w c C nm g) (hc : ∀ q, InR (c q)) {N : Nat} (hN : c 0 = (N : Int)) (hcap : N ≤ 90) {i : Int} (hi : InR i) : ∀ n t : Nat, t + n = N → RUN G l (d + 3) mX9_heldAtPlace 2 [some (.ref w), some (.int (J i)), some (.int (J (t : Int)))] [] h (fun v h' => v = some (.int (J (hpL c nm N i n t))) ∧ h' = h) := by
  intro n
  induction n with
  | zero =>
    intro t ht
    refine r_iload_n (pc := 2) dX9_heldAtPlace_2 rfl ?_
    refine r_aload_n (pc := 3) dX9_heldAtPlace_3 rfl (by first | rfl | exact isRefV_rf _) ?_
    refine r_getf (pc := 4) dX9_heldAtPlace_4 fX9_71 (by first | assumption | exact isI.gx (by assumption) | exact isI.gc (by assumption) | exact isW.gx (by assumption) | exact isW.gF (by assumption) | exact isW.gT (by assumption) (by omega) | exact isW.gS (by assumption) (by omega) | exact isW.gK (by assumption) (by omega) | exact isW.g1 (by assumption) | exact isW.g2 (by assumption) | exact isW.g3 (by assumption) | exact isI.gx (isW.i0 (by assumption)) | exact isI.gc (isW.i0 (by assumption)) | exact isI.gx (isW.i1 (by assumption)) | exact isI.gc (isW.i1 (by assumption)) | exact isI.gx (isW.i2 (by assumption)) | exact isI.gc (isW.i2 (by assumption)) | exact isI.gx (isW.i3 (by assumption)) | exact isI.gc (isW.i3 (by assumption)) | exact isI.gx (isW.i4 (by assumption)) | exact isI.gc (isW.i4 (by assumption)) | exact isI.gx (isW.i5 (by assumption)) | exact isI.gc (isW.i5 (by assumption)) | exact isR.gx (by assumption) | exact isRd.gx (by assumption) | exact isSp.gx (by assumption) | exact isI.gx (isR.i (by assumption)) | exact isI.gx (isRd.i (by assumption)) | exact isI.gc (isRd.i (by assumption)) | exact isI.gx (isSp.i (by assumption)) | exact isW.gx (isR.w (by assumption)) | exact isW.gF (isR.w (by assumption)) | fail "no such object") (by rfl) ?_
    refine rj_icmp_ge (pc := 7) (tgt := 39) dX9_heldAtPlace_7 (by decide) (by first | exact b01_r | exact bz_r | omega | (constructor <;> omega) | apply_assumption | (apply atF_r; assumption) | fail "no range") (by first | exact b01_r | exact bz_r | omega | (constructor <;> omega) | apply_assumption | (apply atF_r; assumption) | fail "no range") (fun c_7 => ?_) (fun c_7 => ?_)
    · refine rj_iconst (pc := 39) dX9_heldAtPlace_39 ?_
      refine r_ireturn (pc := 40) .int dX9_heldAtPlace_40 rfl (by first | rfl | assumption) ?_
      exact ⟨rfl, rfl⟩
    · exfalso; omega
  | succ n ih =>
    intro t ht
    refine r_iload_n (pc := 2) dX9_heldAtPlace_2 rfl ?_
    refine r_aload_n (pc := 3) dX9_heldAtPlace_3 rfl (by first | rfl | exact isRefV_rf _) ?_
    refine r_getf (pc := 4) dX9_heldAtPlace_4 fX9_71 (by first | assumption | exact isI.gx (by assumption) | exact isI.gc (by assumption) | exact isW.gx (by assumption) | exact isW.gF (by assumption) | exact isW.gT (by assumption) (by omega) | exact isW.gS (by assumption) (by omega) | exact isW.gK (by assumption) (by omega) | exact isW.g1 (by assumption) | exact isW.g2 (by assumption) | exact isW.g3 (by assumption) | exact isI.gx (isW.i0 (by assumption)) | exact isI.gc (isW.i0 (by assumption)) | exact isI.gx (isW.i1 (by assumption)) | exact isI.gc (isW.i1 (by assumption)) | exact isI.gx (isW.i2 (by assumption)) | exact isI.gc (isW.i2 (by assumption)) | exact isI.gx (isW.i3 (by assumption)) | exact isI.gc (isW.i3 (by assumption)) | exact isI.gx (isW.i4 (by assumption)) | exact isI.gc (isW.i4 (by assumption)) | exact isI.gx (isW.i5 (by assumption)) | exact isI.gc (isW.i5 (by assumption)) | exact isR.gx (by assumption) | exact isRd.gx (by assumption) | exact isSp.gx (by assumption) | exact isI.gx (isR.i (by assumption)) | exact isI.gx (isRd.i (by assumption)) | exact isI.gc (isRd.i (by assumption)) | exact isI.gx (isSp.i (by assumption)) | exact isW.gx (isR.w (by assumption)) | exact isW.gF (isR.w (by assumption)) | fail "no such object") (by rfl) ?_
    refine rj_icmp_ge (pc := 7) (tgt := 39) dX9_heldAtPlace_7 (by decide) (by first | exact b01_r | exact bz_r | omega | (constructor <;> omega) | apply_assumption | (apply atF_r; assumption) | fail "no range") (by first | exact b01_r | exact bz_r | omega | (constructor <;> omega) | apply_assumption | (apply atF_r; assumption) | fail "no range") (fun c_7 => ?_) (fun c_7 => ?_)
    · refine rj_iconst (pc := 39) dX9_heldAtPlace_39 ?_
      refine r_ireturn (pc := 40) .int dX9_heldAtPlace_40 rfl (by first | rfl | assumption) ?_
      first | (exfalso; omega) | exact ⟨by rw [hpL, if_pos (⟨c_15, c_28⟩)], rfl⟩
    · refine r_aload_n (pc := 10) dX9_heldAtPlace_10 rfl (by first | rfl | exact isRefV_rf _) ?_
      refine r_iload_n (pc := 11) dX9_heldAtPlace_11 rfl ?_
      refine r_callV1 (pc := 12) dX9_heldAtPlace_12 qX9_isHeld kX9_157 vX9_isHeld (by first | assumption | exact isI.gx (by assumption) | exact isI.gc (by assumption) | exact isW.gx (by assumption) | exact isW.gF (by assumption) | exact isW.gT (by assumption) (by omega) | exact isW.gS (by assumption) (by omega) | exact isW.gK (by assumption) (by omega) | exact isW.g1 (by assumption) | exact isW.g2 (by assumption) | exact isW.g3 (by assumption) | exact isI.gx (isW.i0 (by assumption)) | exact isI.gc (isW.i0 (by assumption)) | exact isI.gx (isW.i1 (by assumption)) | exact isI.gc (isW.i1 (by assumption)) | exact isI.gx (isW.i2 (by assumption)) | exact isI.gc (isW.i2 (by assumption)) | exact isI.gx (isW.i3 (by assumption)) | exact isI.gc (isW.i3 (by assumption)) | exact isI.gx (isW.i4 (by assumption)) | exact isI.gc (isW.i4 (by assumption)) | exact isI.gx (isW.i5 (by assumption)) | exact isI.gc (isW.i5 (by assumption)) | exact isR.gx (by assumption) | exact isRd.gx (by assumption) | exact isSp.gx (by assumption) | exact isI.gx (isR.i (by assumption)) | exact isI.gx (isRd.i (by assumption)) | exact isI.gc (isRd.i (by assumption)) | exact isI.gx (isSp.i (by assumption)) | exact isW.gx (isR.w (by assumption)) | exact isW.gF (isR.w (by assumption)) | fail "no such object") rfl rfl (Nat.le_of_ble_eq_true rfl) (cn_isHeld _ hW hc (t := t) (by omega) (by omega)) (fun v_12 h_12 q_12 => ?_)
      obtain ⟨rfl, rfl⟩ := q_12
      refine rj_if_eq (pc := 15) (tgt := 33) dX9_heldAtPlace_15 (by decide) (by first | exact b01_r | exact bz_r | omega | (constructor <;> omega) | apply_assumption | (apply atF_r; assumption) | fail "no range") (fun c_15 => ?_) (fun c_15 => ?_)
      · try simp only [b01_0, bz_0, Classical.not_not] at c_15
        refine rj_iinc (pc := 33) dX9_heldAtPlace_33 (Nat.le_of_ble_eq_true rfl) rfl ?_
        dsimp only [lsSt, List.set, mLs, mEnt]
        refine r_goto (pc := 36) (tgt := 2) dX9_heldAtPlace_36 (by decide) ?_
        have z := ih (t + 1) (by omega)
        rw [show ((t + 1 : Nat) : Int) = (t : Int) + 1 by omega] at z
        rw [hpL, if_neg (fun g => c_15 g.1)]
        exact z
      · try simp only [b01_0, bz_0, Classical.not_not] at c_15
        refine r_aload_n (pc := 18) dX9_heldAtPlace_18 rfl (by first | rfl | exact isRefV_rf _) ?_
        refine r_aload_n (pc := 19) dX9_heldAtPlace_19 rfl (by first | rfl | exact isRefV_rf _) ?_
        refine r_iload_n (pc := 20) dX9_heldAtPlace_20 rfl ?_
        refine r_callV1 (pc := 21) dX9_heldAtPlace_21 qX9_nameOf kX9_168 vX9_nameOf (by first | assumption | exact isI.gx (by assumption) | exact isI.gc (by assumption) | exact isW.gx (by assumption) | exact isW.gF (by assumption) | exact isW.gT (by assumption) (by omega) | exact isW.gS (by assumption) (by omega) | exact isW.gK (by assumption) (by omega) | exact isW.g1 (by assumption) | exact isW.g2 (by assumption) | exact isW.g3 (by assumption) | exact isI.gx (isW.i0 (by assumption)) | exact isI.gc (isW.i0 (by assumption)) | exact isI.gx (isW.i1 (by assumption)) | exact isI.gc (isW.i1 (by assumption)) | exact isI.gx (isW.i2 (by assumption)) | exact isI.gc (isW.i2 (by assumption)) | exact isI.gx (isW.i3 (by assumption)) | exact isI.gc (isW.i3 (by assumption)) | exact isI.gx (isW.i4 (by assumption)) | exact isI.gc (isW.i4 (by assumption)) | exact isI.gx (isW.i5 (by assumption)) | exact isI.gc (isW.i5 (by assumption)) | exact isR.gx (by assumption) | exact isRd.gx (by assumption) | exact isSp.gx (by assumption) | exact isI.gx (isR.i (by assumption)) | exact isI.gx (isRd.i (by assumption)) | exact isI.gc (isRd.i (by assumption)) | exact isI.gx (isSp.i (by assumption)) | exact isW.gx (isR.w (by assumption)) | exact isW.gF (isR.w (by assumption)) | fail "no such object") rfl rfl (Nat.le_of_ble_eq_true rfl) (cn_nameOf _ hW hc (t := t) (by omega) (by omega)) (fun v_21 h_21 q_21 => ?_)
        obtain ⟨rfl, rfl⟩ := q_21
        refine r_callV1 (pc := 24) dX9_heldAtPlace_24 qX9_heldAhead kX9_180 vX9_heldAhead (by first | assumption | exact isI.gx (by assumption) | exact isI.gc (by assumption) | exact isW.gx (by assumption) | exact isW.gF (by assumption) | exact isW.gT (by assumption) (by omega) | exact isW.gS (by assumption) (by omega) | exact isW.gK (by assumption) (by omega) | exact isW.g1 (by assumption) | exact isW.g2 (by assumption) | exact isW.g3 (by assumption) | exact isI.gx (isW.i0 (by assumption)) | exact isI.gc (isW.i0 (by assumption)) | exact isI.gx (isW.i1 (by assumption)) | exact isI.gc (isW.i1 (by assumption)) | exact isI.gx (isW.i2 (by assumption)) | exact isI.gc (isW.i2 (by assumption)) | exact isI.gx (isW.i3 (by assumption)) | exact isI.gc (isW.i3 (by assumption)) | exact isI.gx (isW.i4 (by assumption)) | exact isI.gc (isW.i4 (by assumption)) | exact isI.gx (isW.i5 (by assumption)) | exact isI.gc (isW.i5 (by assumption)) | exact isR.gx (by assumption) | exact isRd.gx (by assumption) | exact isSp.gx (by assumption) | exact isI.gx (isR.i (by assumption)) | exact isI.gx (isRd.i (by assumption)) | exact isI.gc (isRd.i (by assumption)) | exact isI.gx (isSp.i (by assumption)) | exact isW.gx (isR.w (by assumption)) | exact isW.gF (isR.w (by assumption)) | fail "no such object") rfl rfl (Nat.le_of_ble_eq_true rfl) (cq_heldAhead _ hW hc hN hcap (y := nm t)) (fun v_24 h_24 q_24 => ?_)
        obtain ⟨rfl, rfl⟩ := q_24
        have rk := cnt_r (haB c nm (nm t)) N
        refine r_iload_n (pc := 27) dX9_heldAtPlace_27 rfl ?_
        refine rj_icmp_ne (pc := 28) (tgt := 33) dX9_heldAtPlace_28 (by decide) (by first | exact b01_r | exact bz_r | omega | (constructor <;> omega) | apply_assumption | (apply atF_r; assumption) | fail "no range") (by first | exact b01_r | exact bz_r | omega | (constructor <;> omega) | apply_assumption | (apply atF_r; assumption) | fail "no range") (fun c_28 => ?_) (fun c_28 => ?_)
        · refine rj_iinc (pc := 33) dX9_heldAtPlace_33 (Nat.le_of_ble_eq_true rfl) rfl ?_
          dsimp only [lsSt, List.set, mLs, mEnt]
          refine r_goto (pc := 36) (tgt := 2) dX9_heldAtPlace_36 (by decide) ?_
          have z := ih (t + 1) (by omega)
          rw [show ((t + 1 : Nat) : Int) = (t : Int) + 1 by omega] at z
          rw [hpL, if_neg (fun g => c_28 g.2)]
          exact z
        · refine r_iload_n (pc := 31) dX9_heldAtPlace_31 rfl ?_
          refine r_ireturn (pc := 32) .int dX9_heldAtPlace_32 rfl (by first | rfl | assumption) ?_
          first | (exfalso; omega) | exact ⟨by rw [hpL, if_pos (⟨c_15, c_28⟩)], rfl⟩
set_option maxHeartbeats 4000000 in
set_option maxRecDepth 100000 in
theorem cq_heldAtPlace {G : mG} {l : Launch} (d : Nat) {h : mH} {w : Nat} {c : Nat → Int} {C : Nat → Nat → Int} {nm : Nat → Int64} {g : Nat → Option Nat} (hW : isW h w c C nm g) (hc : ∀ q, InR (c q)) {N : Nat} (hN : c 0 = (N : Int)) (hcap : N ≤ 90) {i : Int} (hi : InR i) : RUNM G l (d + 3) mX9_heldAtPlace [.ref w, .int (J i)] h (fun v h' => v = some (.int (J (hpL c nm N i N 0))) ∧ h' = h) := by
  refine RUNM.of (by decide +kernel) (Nat.le_of_ble_eq_true rfl) ?_
  refine rj_iconst (pc := 0) dX9_heldAtPlace_0 ?_
  refine r_istore_n (pc := 1) dX9_heldAtPlace_1 (Nat.le_of_ble_eq_true rfl) ?_
  dsimp only [lsSt, List.set, mLs, mEnt]
  exact L_heldAtPlace d hW hc hN hcap hi N 0 (by omega)
def ryB (c : Nat → Int) (t : Nat) : Bool := decide (c (489 + 9 * t) = 0)
set_option maxHeartbeats 4000000 in
set_option maxRecDepth 100000 in
theorem L_readyTasks {G : mG} {l : Launch} (d : Nat) {h : mH} {w : Nat} {c : Nat → Int} {C : Nat → Nat → Int} {nm : Nat → Int64} {g : Nat → Option Nat} (hW : isW h w c C nm g) (hc : ∀ q, InR (c q)) {K : Nat} (hK : c 2 = (K : Int)) (hcapK : K ≤ 10) : ∀ k t : Nat, t + k = K → RUN G l (d + 2) mX9_readyTasks 4 [some (.ref w), some (.int (J (cnt (ryB c) t))), some (.int (J (t : Int)))] [] h (fun v h' => v = some (.int (J (cnt (ryB c) K))) ∧ h' = h) := by
  intro k
  induction k with
  | zero =>
    intro t ht
    refine r_iload_n (pc := 4) dX9_readyTasks_4 rfl ?_
    refine r_aload_n (pc := 5) dX9_readyTasks_5 rfl (by first | rfl | exact isRefV_rf _) ?_
    refine r_getf (pc := 6) dX9_readyTasks_6 fX9_81 (by first | assumption | exact isI.gx (by assumption) | exact isI.gc (by assumption) | exact isW.gx (by assumption) | exact isW.gF (by assumption) | exact isW.gT (by assumption) (by omega) | exact isW.gS (by assumption) (by omega) | exact isW.gK (by assumption) (by omega) | exact isW.g1 (by assumption) | exact isW.g2 (by assumption) | exact isW.g3 (by assumption) | exact isI.gx (isW.i0 (by assumption)) | exact isI.gc (isW.i0 (by assumption)) | exact isI.gx (isW.i1 (by assumption)) | exact isI.gc (isW.i1 (by assumption)) | exact isI.gx (isW.i2 (by assumption)) | exact isI.gc (isW.i2 (by assumption)) | exact isI.gx (isW.i3 (by assumption)) | exact isI.gc (isW.i3 (by assumption)) | exact isI.gx (isW.i4 (by assumption)) | exact isI.gc (isW.i4 (by assumption)) | exact isI.gx (isW.i5 (by assumption)) | exact isI.gc (isW.i5 (by assumption)) | exact isR.gx (by assumption) | exact isRd.gx (by assumption) | exact isSp.gx (by assumption) | exact isI.gx (isR.i (by assumption)) | exact isI.gx (isRd.i (by assumption)) | exact isI.gc (isRd.i (by assumption)) | exact isI.gx (isSp.i (by assumption)) | exact isW.gx (isR.w (by assumption)) | exact isW.gF (isR.w (by assumption)) | fail "no such object") (by rfl) ?_
    refine rj_icmp_ge (pc := 9) (tgt := 29) dX9_readyTasks_9 (by decide) (by first | exact b01_r | exact bz_r | omega | (constructor <;> omega) | apply_assumption | (apply atF_r; assumption) | fail "no range") (by first | exact b01_r | exact bz_r | omega | (constructor <;> omega) | apply_assumption | (apply atF_r; assumption) | fail "no range") (fun c_9 => ?_) (fun c_9 => ?_)
    · refine r_iload_n (pc := 29) dX9_readyTasks_29 rfl ?_
      refine r_ireturn (pc := 30) .int dX9_readyTasks_30 rfl (by first | rfl | assumption) ?_
      obtain rfl : t = K := by omega
      exact ⟨rfl, rfl⟩
    · exfalso; omega
  | succ k ih =>
    intro t ht
    refine r_iload_n (pc := 4) dX9_readyTasks_4 rfl ?_
    refine r_aload_n (pc := 5) dX9_readyTasks_5 rfl (by first | rfl | exact isRefV_rf _) ?_
    refine r_getf (pc := 6) dX9_readyTasks_6 fX9_81 (by first | assumption | exact isI.gx (by assumption) | exact isI.gc (by assumption) | exact isW.gx (by assumption) | exact isW.gF (by assumption) | exact isW.gT (by assumption) (by omega) | exact isW.gS (by assumption) (by omega) | exact isW.gK (by assumption) (by omega) | exact isW.g1 (by assumption) | exact isW.g2 (by assumption) | exact isW.g3 (by assumption) | exact isI.gx (isW.i0 (by assumption)) | exact isI.gc (isW.i0 (by assumption)) | exact isI.gx (isW.i1 (by assumption)) | exact isI.gc (isW.i1 (by assumption)) | exact isI.gx (isW.i2 (by assumption)) | exact isI.gc (isW.i2 (by assumption)) | exact isI.gx (isW.i3 (by assumption)) | exact isI.gc (isW.i3 (by assumption)) | exact isI.gx (isW.i4 (by assumption)) | exact isI.gc (isW.i4 (by assumption)) | exact isI.gx (isW.i5 (by assumption)) | exact isI.gc (isW.i5 (by assumption)) | exact isR.gx (by assumption) | exact isRd.gx (by assumption) | exact isSp.gx (by assumption) | exact isI.gx (isR.i (by assumption)) | exact isI.gx (isRd.i (by assumption)) | exact isI.gc (isRd.i (by assumption)) | exact isI.gx (isSp.i (by assumption)) | exact isW.gx (isR.w (by assumption)) | exact isW.gF (isR.w (by assumption)) | fail "no such object") (by rfl) ?_
    refine rj_icmp_ge (pc := 9) (tgt := 29) dX9_readyTasks_9 (by decide) (by first | exact b01_r | exact bz_r | omega | (constructor <;> omega) | apply_assumption | (apply atF_r; assumption) | fail "no range") (by first | exact b01_r | exact bz_r | omega | (constructor <;> omega) | apply_assumption | (apply atF_r; assumption) | fail "no range") (fun c_9 => ?_) (fun c_9 => ?_)
    · refine r_iload_n (pc := 29) dX9_readyTasks_29 rfl ?_
      refine r_ireturn (pc := 30) .int dX9_readyTasks_30 rfl (by first | rfl | assumption) ?_
      exfalso; omega
    · refine r_aload_n (pc := 12) dX9_readyTasks_12 rfl (by first | rfl | exact isRefV_rf _) ?_
      refine r_iload_n (pc := 13) dX9_readyTasks_13 rfl ?_
      refine r_callV1 (pc := 14) dX9_readyTasks_14 qX9_isReady kX9_184 vX9_isReady (by first | assumption | exact isI.gx (by assumption) | exact isI.gc (by assumption) | exact isW.gx (by assumption) | exact isW.gF (by assumption) | exact isW.gT (by assumption) (by omega) | exact isW.gS (by assumption) (by omega) | exact isW.gK (by assumption) (by omega) | exact isW.g1 (by assumption) | exact isW.g2 (by assumption) | exact isW.g3 (by assumption) | exact isI.gx (isW.i0 (by assumption)) | exact isI.gc (isW.i0 (by assumption)) | exact isI.gx (isW.i1 (by assumption)) | exact isI.gc (isW.i1 (by assumption)) | exact isI.gx (isW.i2 (by assumption)) | exact isI.gc (isW.i2 (by assumption)) | exact isI.gx (isW.i3 (by assumption)) | exact isI.gc (isW.i3 (by assumption)) | exact isI.gx (isW.i4 (by assumption)) | exact isI.gc (isW.i4 (by assumption)) | exact isI.gx (isW.i5 (by assumption)) | exact isI.gc (isW.i5 (by assumption)) | exact isR.gx (by assumption) | exact isRd.gx (by assumption) | exact isSp.gx (by assumption) | exact isI.gx (isR.i (by assumption)) | exact isI.gx (isRd.i (by assumption)) | exact isI.gc (isRd.i (by assumption)) | exact isI.gx (isSp.i (by assumption)) | exact isW.gx (isR.w (by assumption)) | exact isW.gF (isR.w (by assumption)) | fail "no such object") rfl rfl (Nat.le_of_ble_eq_true rfl) (cn_isReady (d) hW hc (t := t) (by omega) (by omega)) (fun v_14 h_14 q_14 => ?_)
      obtain ⟨rfl, rfl⟩ := q_14
      refine rj_if_eq (pc := 17) (tgt := 23) dX9_readyTasks_17 (by decide) (by first | exact b01_r | exact bz_r | omega | (constructor <;> omega) | apply_assumption | (apply atF_r; assumption) | fail "no range") (fun c_17 => ?_) (fun c_17 => ?_)
      · try simp only [b01_0, bz_0, Classical.not_not] at c_17
        refine rj_iinc (pc := 23) dX9_readyTasks_23 (Nat.le_of_ble_eq_true rfl) rfl ?_
        dsimp only [lsSt, List.set, mLs, mEnt]
        refine r_goto (pc := 26) (tgt := 4) dX9_readyTasks_26 (by decide) ?_
        have z := ih (t + 1) (by omega)
        rw [show ((t + 1 : Nat) : Int) = (t : Int) + 1 by omega] at z
        rw [← cnt_f (p := ryB c) (n := t) (decide_eq_false (c_17))] at z
        rw [Int.add_zero] at z
        exact z
      · try simp only [b01_0, bz_0, Classical.not_not] at c_17
        refine rj_iinc (pc := 20) dX9_readyTasks_20 (Nat.le_of_ble_eq_true rfl) rfl ?_
        dsimp only [lsSt, List.set, mLs, mEnt]
        refine rj_iinc (pc := 23) dX9_readyTasks_23 (Nat.le_of_ble_eq_true rfl) rfl ?_
        dsimp only [lsSt, List.set, mLs, mEnt]
        refine r_goto (pc := 26) (tgt := 4) dX9_readyTasks_26 (by decide) ?_
        have z := ih (t + 1) (by omega)
        rw [show ((t + 1 : Nat) : Int) = (t : Int) + 1 by omega] at z
        rw [← cnt_t (p := ryB c) (n := t) (decide_eq_true (c_17))] at z
        exact z
set_option maxHeartbeats 4000000 in
set_option maxRecDepth 100000 in
theorem cq_readyTasks {G : mG} {l : Launch} (d : Nat) {h : mH} {w : Nat} {c : Nat → Int} {C : Nat → Nat → Int} {nm : Nat → Int64} {g : Nat → Option Nat} (hW : isW h w c C nm g) (hc : ∀ q, InR (c q)) {K : Nat} (hK : c 2 = (K : Int)) (hcapK : K ≤ 10) : RUNM G l (d + 2) mX9_readyTasks [.ref w] h (fun v h' => v = some (.int (J (cnt (ryB c) K))) ∧ h' = h) := by
  refine RUNM.of (by decide +kernel) (Nat.le_of_ble_eq_true rfl) ?_
  refine rj_iconst (pc := 0) dX9_readyTasks_0 ?_
  refine r_istore_n (pc := 1) dX9_readyTasks_1 (Nat.le_of_ble_eq_true rfl) ?_
  dsimp only [lsSt, List.set, mLs, mEnt]
  refine rj_iconst (pc := 2) dX9_readyTasks_2 ?_
  refine r_istore_n (pc := 3) dX9_readyTasks_3 (Nat.le_of_ble_eq_true rfl) ?_
  dsimp only [lsSt, List.set, mLs, mEnt]
  exact L_readyTasks d hW hc hK hcapK K 0 (by omega)
abbrev caP (c : Nat → Int) (a b : Nat) : Prop := (¬ c (490 + 9 * a) = c (490 + 9 * b) ∧ c (490 + 9 * b) < c (490 + 9 * a)) ∨ (c (490 + 9 * a) = c (490 + 9 * b) ∧ c (492 + 9 * a) < c (492 + 9 * b))
set_option maxHeartbeats 4000000 in
set_option maxRecDepth 100000 in
theorem cw_comesAheadOf {G : mG} {l : Launch} (d : Nat) {h : mH} {w : Nat} {c : Nat → Int} {C : Nat → Nat → Int} {nm : Nat → Int64} {g : Nat → Option Nat} (hW : isW h w c C nm g) (hc : ∀ q, InR (c q)) {a b : Nat} (ha : a < 10) (hb : b < 10) : RUNM G l (d) mX7_comesAheadOf [.ref (wK w a), .ref (wK w b)] h (fun v h' => v = some (.int (J (b01 (caP c a b)))) ∧ h' = h) := by
  refine RUNM.of (by decide +kernel) (Nat.le_of_ble_eq_true rfl) ?_
  have ra := hc (490 + 9 * a)
  have rb := hc (490 + 9 * b)
  have la := hc (492 + 9 * a)
  have lb := hc (492 + 9 * b)
  refine r_aload_n (pc := 0) dX7_comesAheadOf_0 rfl (by first | rfl | exact isRefV_rf _) ?_
  refine r_getf (pc := 1) dX7_comesAheadOf_1 fX7_25 (by first | assumption | exact isI.gx (by assumption) | exact isI.gc (by assumption) | exact isW.gx (by assumption) | exact isW.gF (by assumption) | exact isW.gT (by assumption) (by omega) | exact isW.gS (by assumption) (by omega) | exact isW.gK (by assumption) (by omega) | exact isW.g1 (by assumption) | exact isW.g2 (by assumption) | exact isW.g3 (by assumption) | exact isI.gx (isW.i0 (by assumption)) | exact isI.gc (isW.i0 (by assumption)) | exact isI.gx (isW.i1 (by assumption)) | exact isI.gc (isW.i1 (by assumption)) | exact isI.gx (isW.i2 (by assumption)) | exact isI.gc (isW.i2 (by assumption)) | exact isI.gx (isW.i3 (by assumption)) | exact isI.gc (isW.i3 (by assumption)) | exact isI.gx (isW.i4 (by assumption)) | exact isI.gc (isW.i4 (by assumption)) | exact isI.gx (isW.i5 (by assumption)) | exact isI.gc (isW.i5 (by assumption)) | exact isR.gx (by assumption) | exact isRd.gx (by assumption) | exact isSp.gx (by assumption) | exact isI.gx (isR.i (by assumption)) | exact isI.gx (isRd.i (by assumption)) | exact isI.gc (isRd.i (by assumption)) | exact isI.gx (isSp.i (by assumption)) | exact isW.gx (isR.w (by assumption)) | exact isW.gF (isR.w (by assumption)) | fail "no such object") (by rfl) ?_
  refine r_aload_n (pc := 4) dX7_comesAheadOf_4 rfl (by first | rfl | exact isRefV_rf _) ?_
  refine r_getf (pc := 5) dX7_comesAheadOf_5 fX7_25 (by first | assumption | exact isI.gx (by assumption) | exact isI.gc (by assumption) | exact isW.gx (by assumption) | exact isW.gF (by assumption) | exact isW.gT (by assumption) (by omega) | exact isW.gS (by assumption) (by omega) | exact isW.gK (by assumption) (by omega) | exact isW.g1 (by assumption) | exact isW.g2 (by assumption) | exact isW.g3 (by assumption) | exact isI.gx (isW.i0 (by assumption)) | exact isI.gc (isW.i0 (by assumption)) | exact isI.gx (isW.i1 (by assumption)) | exact isI.gc (isW.i1 (by assumption)) | exact isI.gx (isW.i2 (by assumption)) | exact isI.gc (isW.i2 (by assumption)) | exact isI.gx (isW.i3 (by assumption)) | exact isI.gc (isW.i3 (by assumption)) | exact isI.gx (isW.i4 (by assumption)) | exact isI.gc (isW.i4 (by assumption)) | exact isI.gx (isW.i5 (by assumption)) | exact isI.gc (isW.i5 (by assumption)) | exact isR.gx (by assumption) | exact isRd.gx (by assumption) | exact isSp.gx (by assumption) | exact isI.gx (isR.i (by assumption)) | exact isI.gx (isRd.i (by assumption)) | exact isI.gc (isRd.i (by assumption)) | exact isI.gx (isSp.i (by assumption)) | exact isW.gx (isR.w (by assumption)) | exact isW.gF (isR.w (by assumption)) | fail "no such object") (by rfl) ?_
  refine rj_icmp_eq (pc := 8) (tgt := 30) dX7_comesAheadOf_8 (by decide) (by first | exact b01_r | exact bz_r | omega | (constructor <;> omega) | apply_assumption | (apply atF_r; assumption) | fail "no range") (by first | exact b01_r | exact bz_r | omega | (constructor <;> omega) | apply_assumption | (apply atF_r; assumption) | fail "no range") (fun c_8 => ?_) (fun c_8 => ?_)
  · refine r_aload_n (pc := 30) dX7_comesAheadOf_30 rfl (by first | rfl | exact isRefV_rf _) ?_
    refine r_getf (pc := 31) dX7_comesAheadOf_31 fX7_31 (by first | assumption | exact isI.gx (by assumption) | exact isI.gc (by assumption) | exact isW.gx (by assumption) | exact isW.gF (by assumption) | exact isW.gT (by assumption) (by omega) | exact isW.gS (by assumption) (by omega) | exact isW.gK (by assumption) (by omega) | exact isW.g1 (by assumption) | exact isW.g2 (by assumption) | exact isW.g3 (by assumption) | exact isI.gx (isW.i0 (by assumption)) | exact isI.gc (isW.i0 (by assumption)) | exact isI.gx (isW.i1 (by assumption)) | exact isI.gc (isW.i1 (by assumption)) | exact isI.gx (isW.i2 (by assumption)) | exact isI.gc (isW.i2 (by assumption)) | exact isI.gx (isW.i3 (by assumption)) | exact isI.gc (isW.i3 (by assumption)) | exact isI.gx (isW.i4 (by assumption)) | exact isI.gc (isW.i4 (by assumption)) | exact isI.gx (isW.i5 (by assumption)) | exact isI.gc (isW.i5 (by assumption)) | exact isR.gx (by assumption) | exact isRd.gx (by assumption) | exact isSp.gx (by assumption) | exact isI.gx (isR.i (by assumption)) | exact isI.gx (isRd.i (by assumption)) | exact isI.gc (isRd.i (by assumption)) | exact isI.gx (isSp.i (by assumption)) | exact isW.gx (isR.w (by assumption)) | exact isW.gF (isR.w (by assumption)) | fail "no such object") (by rfl) ?_
    refine r_aload_n (pc := 34) dX7_comesAheadOf_34 rfl (by first | rfl | exact isRefV_rf _) ?_
    refine r_getf (pc := 35) dX7_comesAheadOf_35 fX7_31 (by first | assumption | exact isI.gx (by assumption) | exact isI.gc (by assumption) | exact isW.gx (by assumption) | exact isW.gF (by assumption) | exact isW.gT (by assumption) (by omega) | exact isW.gS (by assumption) (by omega) | exact isW.gK (by assumption) (by omega) | exact isW.g1 (by assumption) | exact isW.g2 (by assumption) | exact isW.g3 (by assumption) | exact isI.gx (isW.i0 (by assumption)) | exact isI.gc (isW.i0 (by assumption)) | exact isI.gx (isW.i1 (by assumption)) | exact isI.gc (isW.i1 (by assumption)) | exact isI.gx (isW.i2 (by assumption)) | exact isI.gc (isW.i2 (by assumption)) | exact isI.gx (isW.i3 (by assumption)) | exact isI.gc (isW.i3 (by assumption)) | exact isI.gx (isW.i4 (by assumption)) | exact isI.gc (isW.i4 (by assumption)) | exact isI.gx (isW.i5 (by assumption)) | exact isI.gc (isW.i5 (by assumption)) | exact isR.gx (by assumption) | exact isRd.gx (by assumption) | exact isSp.gx (by assumption) | exact isI.gx (isR.i (by assumption)) | exact isI.gx (isRd.i (by assumption)) | exact isI.gc (isRd.i (by assumption)) | exact isI.gx (isSp.i (by assumption)) | exact isW.gx (isR.w (by assumption)) | exact isW.gF (isR.w (by assumption)) | fail "no such object") (by rfl) ?_
    refine rj_icmp_ge (pc := 38) (tgt := 45) dX7_comesAheadOf_38 (by decide) (by first | exact b01_r | exact bz_r | omega | (constructor <;> omega) | apply_assumption | (apply atF_r; assumption) | fail "no range") (by first | exact b01_r | exact bz_r | omega | (constructor <;> omega) | apply_assumption | (apply atF_r; assumption) | fail "no range") (fun c_38 => ?_) (fun c_38 => ?_)
    · refine rj_iconst (pc := 45) dX7_comesAheadOf_45 ?_
      refine r_ireturn (pc := 46) .boolean dX7_comesAheadOf_46 rfl (by first | exact nar_J0 | exact nar_J1 | exact nar_b01 | exact nar_bz) ?_
      first
      | exact ⟨vf (by unfold caP; omega), rfl⟩
      | exact ⟨vt (by unfold caP; omega), rfl⟩
    · refine rj_iconst (pc := 41) dX7_comesAheadOf_41 ?_
      refine r_goto (pc := 42) (tgt := 46) dX7_comesAheadOf_42 (by decide) ?_
      refine r_ireturn (pc := 46) .boolean dX7_comesAheadOf_46 rfl (by first | exact nar_J0 | exact nar_J1 | exact nar_b01 | exact nar_bz) ?_
      first
      | exact ⟨vf (by unfold caP; omega), rfl⟩
      | exact ⟨vt (by unfold caP; omega), rfl⟩
  · refine r_aload_n (pc := 11) dX7_comesAheadOf_11 rfl (by first | rfl | exact isRefV_rf _) ?_
    refine r_getf (pc := 12) dX7_comesAheadOf_12 fX7_25 (by first | assumption | exact isI.gx (by assumption) | exact isI.gc (by assumption) | exact isW.gx (by assumption) | exact isW.gF (by assumption) | exact isW.gT (by assumption) (by omega) | exact isW.gS (by assumption) (by omega) | exact isW.gK (by assumption) (by omega) | exact isW.g1 (by assumption) | exact isW.g2 (by assumption) | exact isW.g3 (by assumption) | exact isI.gx (isW.i0 (by assumption)) | exact isI.gc (isW.i0 (by assumption)) | exact isI.gx (isW.i1 (by assumption)) | exact isI.gc (isW.i1 (by assumption)) | exact isI.gx (isW.i2 (by assumption)) | exact isI.gc (isW.i2 (by assumption)) | exact isI.gx (isW.i3 (by assumption)) | exact isI.gc (isW.i3 (by assumption)) | exact isI.gx (isW.i4 (by assumption)) | exact isI.gc (isW.i4 (by assumption)) | exact isI.gx (isW.i5 (by assumption)) | exact isI.gc (isW.i5 (by assumption)) | exact isR.gx (by assumption) | exact isRd.gx (by assumption) | exact isSp.gx (by assumption) | exact isI.gx (isR.i (by assumption)) | exact isI.gx (isRd.i (by assumption)) | exact isI.gc (isRd.i (by assumption)) | exact isI.gx (isSp.i (by assumption)) | exact isW.gx (isR.w (by assumption)) | exact isW.gF (isR.w (by assumption)) | fail "no such object") (by rfl) ?_
    refine r_aload_n (pc := 15) dX7_comesAheadOf_15 rfl (by first | rfl | exact isRefV_rf _) ?_
    refine r_getf (pc := 16) dX7_comesAheadOf_16 fX7_25 (by first | assumption | exact isI.gx (by assumption) | exact isI.gc (by assumption) | exact isW.gx (by assumption) | exact isW.gF (by assumption) | exact isW.gT (by assumption) (by omega) | exact isW.gS (by assumption) (by omega) | exact isW.gK (by assumption) (by omega) | exact isW.g1 (by assumption) | exact isW.g2 (by assumption) | exact isW.g3 (by assumption) | exact isI.gx (isW.i0 (by assumption)) | exact isI.gc (isW.i0 (by assumption)) | exact isI.gx (isW.i1 (by assumption)) | exact isI.gc (isW.i1 (by assumption)) | exact isI.gx (isW.i2 (by assumption)) | exact isI.gc (isW.i2 (by assumption)) | exact isI.gx (isW.i3 (by assumption)) | exact isI.gc (isW.i3 (by assumption)) | exact isI.gx (isW.i4 (by assumption)) | exact isI.gc (isW.i4 (by assumption)) | exact isI.gx (isW.i5 (by assumption)) | exact isI.gc (isW.i5 (by assumption)) | exact isR.gx (by assumption) | exact isRd.gx (by assumption) | exact isSp.gx (by assumption) | exact isI.gx (isR.i (by assumption)) | exact isI.gx (isRd.i (by assumption)) | exact isI.gc (isRd.i (by assumption)) | exact isI.gx (isSp.i (by assumption)) | exact isW.gx (isR.w (by assumption)) | exact isW.gF (isR.w (by assumption)) | fail "no such object") (by rfl) ?_
    refine rj_icmp_le (pc := 19) (tgt := 26) dX7_comesAheadOf_19 (by decide) (by first | exact b01_r | exact bz_r | omega | (constructor <;> omega) | apply_assumption | (apply atF_r; assumption) | fail "no range") (by first | exact b01_r | exact bz_r | omega | (constructor <;> omega) | apply_assumption | (apply atF_r; assumption) | fail "no range") (fun c_19 => ?_) (fun c_19 => ?_)
    · refine rj_iconst (pc := 26) dX7_comesAheadOf_26 ?_
      refine r_goto (pc := 27) (tgt := 46) dX7_comesAheadOf_27 (by decide) ?_
      refine r_ireturn (pc := 46) .boolean dX7_comesAheadOf_46 rfl (by first | exact nar_J0 | exact nar_J1 | exact nar_b01 | exact nar_bz) ?_
      first
      | exact ⟨vf (by unfold caP; omega), rfl⟩
      | exact ⟨vt (by unfold caP; omega), rfl⟩
    · refine rj_iconst (pc := 22) dX7_comesAheadOf_22 ?_
      refine r_goto (pc := 23) (tgt := 46) dX7_comesAheadOf_23 (by decide) ?_
      refine r_ireturn (pc := 46) .boolean dX7_comesAheadOf_46 rfl (by first | exact nar_J0 | exact nar_J1 | exact nar_b01 | exact nar_bz) ?_
      first
      | exact ⟨vf (by unfold caP; omega), rfl⟩
      | exact ⟨vt (by unfold caP; omega), rfl⟩
end mg_86
section mg_87
/-! ===== the class: the turns' order, the entries ===== -/
def raB (c : Nat → Int) (a : Nat) (t : Nat) : Bool := decide (c (489 + 9 * t) = 0 ∧ (caP c t a ∨ t < a ∧ ¬ caP c a t))
set_option maxHeartbeats 4000000 in
set_option maxRecDepth 100000 in
theorem L_readyAhead {G : mG} {l : Launch} (d : Nat) {h : mH} {w : Nat} {c : Nat → Int} {C : Nat → Nat → Int} {nm : Nat → Int64} {g : Nat → Option Nat} (hW : isW h w c C nm g) (hc : ∀ q, InR (c q)) {K : Nat} (hK : c 2 = (K : Int)) (hcapK : K ≤ 10) {a : Nat} (ha : a < K) : ∀ (k t : Nat) (o0 : Option Value), t + k = K → RUN G l (d + 2) mX9_readyAhead 11 [some (.ref w), some (.int (J (a : Int))), some (.ref (wK w a)), some (.int (J (cnt (raB c a) t))), some (.int (J (t : Int))), o0] [] h (fun v h' => v = some (.int (J (cnt (raB c a) K))) ∧ h' = h) := by
  intro k
  induction k with
  | zero =>
    intro t o0 ht
    refine r_iload (pc := 11) dX9_readyAhead_11 rfl ?_
    refine r_aload_n (pc := 13) dX9_readyAhead_13 rfl (by first | rfl | exact isRefV_rf _) ?_
    refine r_getf (pc := 14) dX9_readyAhead_14 fX9_81 (by first | assumption | exact isI.gx (by assumption) | exact isI.gc (by assumption) | exact isW.gx (by assumption) | exact isW.gF (by assumption) | exact isW.gT (by assumption) (by omega) | exact isW.gS (by assumption) (by omega) | exact isW.gK (by assumption) (by omega) | exact isW.g1 (by assumption) | exact isW.g2 (by assumption) | exact isW.g3 (by assumption) | exact isI.gx (isW.i0 (by assumption)) | exact isI.gc (isW.i0 (by assumption)) | exact isI.gx (isW.i1 (by assumption)) | exact isI.gc (isW.i1 (by assumption)) | exact isI.gx (isW.i2 (by assumption)) | exact isI.gc (isW.i2 (by assumption)) | exact isI.gx (isW.i3 (by assumption)) | exact isI.gc (isW.i3 (by assumption)) | exact isI.gx (isW.i4 (by assumption)) | exact isI.gc (isW.i4 (by assumption)) | exact isI.gx (isW.i5 (by assumption)) | exact isI.gc (isW.i5 (by assumption)) | exact isR.gx (by assumption) | exact isRd.gx (by assumption) | exact isSp.gx (by assumption) | exact isI.gx (isR.i (by assumption)) | exact isI.gx (isRd.i (by assumption)) | exact isI.gc (isRd.i (by assumption)) | exact isI.gx (isSp.i (by assumption)) | exact isW.gx (isR.w (by assumption)) | exact isW.gF (isR.w (by assumption)) | fail "no such object") (by rfl) ?_
    refine rj_icmp_ge (pc := 17) (tgt := 78) dX9_readyAhead_17 (by decide) (by first | exact b01_r | exact bz_r | omega | (constructor <;> omega) | apply_assumption | (apply atF_r; assumption) | fail "no range") (by first | exact b01_r | exact bz_r | omega | (constructor <;> omega) | apply_assumption | (apply atF_r; assumption) | fail "no range") (fun c_17 => ?_) (fun c_17 => ?_)
    · refine r_iload_n (pc := 78) dX9_readyAhead_78 rfl ?_
      refine r_ireturn (pc := 79) .int dX9_readyAhead_79 rfl (by first | rfl | assumption) ?_
      obtain rfl : t = K := by omega
      exact ⟨rfl, rfl⟩
    · exfalso; omega
  | succ k ih =>
    intro t o0 ht
    refine r_iload (pc := 11) dX9_readyAhead_11 rfl ?_
    refine r_aload_n (pc := 13) dX9_readyAhead_13 rfl (by first | rfl | exact isRefV_rf _) ?_
    refine r_getf (pc := 14) dX9_readyAhead_14 fX9_81 (by first | assumption | exact isI.gx (by assumption) | exact isI.gc (by assumption) | exact isW.gx (by assumption) | exact isW.gF (by assumption) | exact isW.gT (by assumption) (by omega) | exact isW.gS (by assumption) (by omega) | exact isW.gK (by assumption) (by omega) | exact isW.g1 (by assumption) | exact isW.g2 (by assumption) | exact isW.g3 (by assumption) | exact isI.gx (isW.i0 (by assumption)) | exact isI.gc (isW.i0 (by assumption)) | exact isI.gx (isW.i1 (by assumption)) | exact isI.gc (isW.i1 (by assumption)) | exact isI.gx (isW.i2 (by assumption)) | exact isI.gc (isW.i2 (by assumption)) | exact isI.gx (isW.i3 (by assumption)) | exact isI.gc (isW.i3 (by assumption)) | exact isI.gx (isW.i4 (by assumption)) | exact isI.gc (isW.i4 (by assumption)) | exact isI.gx (isW.i5 (by assumption)) | exact isI.gc (isW.i5 (by assumption)) | exact isR.gx (by assumption) | exact isRd.gx (by assumption) | exact isSp.gx (by assumption) | exact isI.gx (isR.i (by assumption)) | exact isI.gx (isRd.i (by assumption)) | exact isI.gc (isRd.i (by assumption)) | exact isI.gx (isSp.i (by assumption)) | exact isW.gx (isR.w (by assumption)) | exact isW.gF (isR.w (by assumption)) | fail "no such object") (by rfl) ?_
    refine rj_icmp_ge (pc := 17) (tgt := 78) dX9_readyAhead_17 (by decide) (by first | exact b01_r | exact bz_r | omega | (constructor <;> omega) | apply_assumption | (apply atF_r; assumption) | fail "no range") (by first | exact b01_r | exact bz_r | omega | (constructor <;> omega) | apply_assumption | (apply atF_r; assumption) | fail "no range") (fun c_17 => ?_) (fun c_17 => ?_)
    · refine r_iload_n (pc := 78) dX9_readyAhead_78 rfl ?_
      refine r_ireturn (pc := 79) .int dX9_readyAhead_79 rfl (by first | rfl | assumption) ?_
      exfalso; omega
    · refine r_aload_n (pc := 20) dX9_readyAhead_20 rfl (by first | rfl | exact isRefV_rf _) ?_
      refine r_iload (pc := 21) dX9_readyAhead_21 rfl ?_
      refine r_callV1 (pc := 23) dX9_readyAhead_23 qX9_taskAt kX9_128 vX9_taskAt (by first | assumption | exact isI.gx (by assumption) | exact isI.gc (by assumption) | exact isW.gx (by assumption) | exact isW.gF (by assumption) | exact isW.gT (by assumption) (by omega) | exact isW.gS (by assumption) (by omega) | exact isW.gK (by assumption) (by omega) | exact isW.g1 (by assumption) | exact isW.g2 (by assumption) | exact isW.g3 (by assumption) | exact isI.gx (isW.i0 (by assumption)) | exact isI.gc (isW.i0 (by assumption)) | exact isI.gx (isW.i1 (by assumption)) | exact isI.gc (isW.i1 (by assumption)) | exact isI.gx (isW.i2 (by assumption)) | exact isI.gc (isW.i2 (by assumption)) | exact isI.gx (isW.i3 (by assumption)) | exact isI.gc (isW.i3 (by assumption)) | exact isI.gx (isW.i4 (by assumption)) | exact isI.gc (isW.i4 (by assumption)) | exact isI.gx (isW.i5 (by assumption)) | exact isI.gc (isW.i5 (by assumption)) | exact isR.gx (by assumption) | exact isRd.gx (by assumption) | exact isSp.gx (by assumption) | exact isI.gx (isR.i (by assumption)) | exact isI.gx (isRd.i (by assumption)) | exact isI.gc (isRd.i (by assumption)) | exact isI.gx (isSp.i (by assumption)) | exact isW.gx (isR.w (by assumption)) | exact isW.gF (isR.w (by assumption)) | fail "no such object") rfl rfl (Nat.le_of_ble_eq_true rfl) (cw_taskAt _ hW hc (i := (t : Int)) ⟨by omega, by omega⟩) (fun v_23 h_23 q_23 => ?_)
      obtain ⟨q1_23, rfl⟩ := q_23
      · obtain rfl := tkAt_P (by omega) q1_23
        refine r_astore (pc := 26) dX9_readyAhead_26 (Nat.le_of_ble_eq_true rfl) (by first | rfl | exact isRefV_rf _) ?_
        dsimp only [lsSt, List.set, mLs, mEnt]
        refine r_aload_n (pc := 28) dX9_readyAhead_28 rfl (by first | rfl | exact isRefV_rf _) ?_
        refine r_ifnull (pc := 29) (tgt := 72) dX9_readyAhead_29 (by decide) (by first | rfl | exact isRefV_rf _) (fun c_29 => by cases c_29) (fun a_29 c_29 => ?_)
        refine r_aload (pc := 32) dX9_readyAhead_32 rfl (by first | rfl | exact isRefV_rf _) ?_
        refine r_ifnull (pc := 34) (tgt := 72) dX9_readyAhead_34 (by decide) (by first | rfl | exact isRefV_rf _) (fun c_34 => by cases c_34) (fun a_34 c_34 => ?_)
        refine r_aload (pc := 37) dX9_readyAhead_37 rfl (by first | rfl | exact isRefV_rf _) ?_
        refine r_getf (pc := 39) dX9_readyAhead_39 fX9_143 (by first | assumption | exact isI.gx (by assumption) | exact isI.gc (by assumption) | exact isW.gx (by assumption) | exact isW.gF (by assumption) | exact isW.gT (by assumption) (by omega) | exact isW.gS (by assumption) (by omega) | exact isW.gK (by assumption) (by omega) | exact isW.g1 (by assumption) | exact isW.g2 (by assumption) | exact isW.g3 (by assumption) | exact isI.gx (isW.i0 (by assumption)) | exact isI.gc (isW.i0 (by assumption)) | exact isI.gx (isW.i1 (by assumption)) | exact isI.gc (isW.i1 (by assumption)) | exact isI.gx (isW.i2 (by assumption)) | exact isI.gc (isW.i2 (by assumption)) | exact isI.gx (isW.i3 (by assumption)) | exact isI.gc (isW.i3 (by assumption)) | exact isI.gx (isW.i4 (by assumption)) | exact isI.gc (isW.i4 (by assumption)) | exact isI.gx (isW.i5 (by assumption)) | exact isI.gc (isW.i5 (by assumption)) | exact isR.gx (by assumption) | exact isRd.gx (by assumption) | exact isSp.gx (by assumption) | exact isI.gx (isR.i (by assumption)) | exact isI.gx (isRd.i (by assumption)) | exact isI.gc (isRd.i (by assumption)) | exact isI.gx (isSp.i (by assumption)) | exact isW.gx (isR.w (by assumption)) | exact isW.gF (isR.w (by assumption)) | fail "no such object") (by rfl) ?_
        refine rj_if_ne (pc := 42) (tgt := 72) dX9_readyAhead_42 (by decide) (by first | exact b01_r | exact bz_r | omega | (constructor <;> omega) | apply_assumption | (apply atF_r; assumption) | fail "no range") (fun c_42 => ?_) (fun c_42 => ?_)
        · try simp only [b01_0, bz_0, Classical.not_not] at c_42
          refine rj_iinc (pc := 72) dX9_readyAhead_72 (Nat.le_of_ble_eq_true rfl) rfl ?_
          dsimp only [lsSt, List.set, mLs, mEnt]
          refine r_goto (pc := 75) (tgt := 11) dX9_readyAhead_75 (by decide) ?_
          have e1 : ((t + 1 : Nat) : Int) = (t : Int) + 1 := by omega
          have e2 := cnt_f (p := raB c a) (n := t) (decide_eq_false (fun g => c_42 g.1))
          rw [Int.add_zero] at e2
          have z := fun o0 => ih (t + 1) o0 (by omega)
          simp only [e1, ← e2] at z
          exact z _
        · try simp only [b01_0, bz_0, Classical.not_not] at c_42
          refine r_aload (pc := 45) dX9_readyAhead_45 rfl (by first | rfl | exact isRefV_rf _) ?_
          refine r_aload_n (pc := 47) dX9_readyAhead_47 rfl (by first | rfl | exact isRefV_rf _) ?_
          refine r_callV1 (pc := 48) dX9_readyAhead_48 qX7_comesAheadOf kX9_190 vX7_comesAheadOf (by first | assumption | exact isI.gx (by assumption) | exact isI.gc (by assumption) | exact isW.gx (by assumption) | exact isW.gF (by assumption) | exact isW.gT (by assumption) (by omega) | exact isW.gS (by assumption) (by omega) | exact isW.gK (by assumption) (by omega) | exact isW.g1 (by assumption) | exact isW.g2 (by assumption) | exact isW.g3 (by assumption) | exact isI.gx (isW.i0 (by assumption)) | exact isI.gc (isW.i0 (by assumption)) | exact isI.gx (isW.i1 (by assumption)) | exact isI.gc (isW.i1 (by assumption)) | exact isI.gx (isW.i2 (by assumption)) | exact isI.gc (isW.i2 (by assumption)) | exact isI.gx (isW.i3 (by assumption)) | exact isI.gc (isW.i3 (by assumption)) | exact isI.gx (isW.i4 (by assumption)) | exact isI.gc (isW.i4 (by assumption)) | exact isI.gx (isW.i5 (by assumption)) | exact isI.gc (isW.i5 (by assumption)) | exact isR.gx (by assumption) | exact isRd.gx (by assumption) | exact isSp.gx (by assumption) | exact isI.gx (isR.i (by assumption)) | exact isI.gx (isRd.i (by assumption)) | exact isI.gc (isRd.i (by assumption)) | exact isI.gx (isSp.i (by assumption)) | exact isW.gx (isR.w (by assumption)) | exact isW.gF (isR.w (by assumption)) | fail "no such object") rfl rfl (Nat.le_of_ble_eq_true rfl) (cw_comesAheadOf _ hW hc (a := t) (b := a) (by omega) (by omega)) (fun v_48 h_48 q_48 => ?_)
          obtain ⟨rfl, rfl⟩ := q_48
          refine rj_if_ne (pc := 51) (tgt := 69) dX9_readyAhead_51 (by decide) (by first | exact b01_r | exact bz_r | omega | (constructor <;> omega) | apply_assumption | (apply atF_r; assumption) | fail "no range") (fun c_51 => ?_) (fun c_51 => ?_)
          · try simp only [b01_0, bz_0, Classical.not_not] at c_51
            refine rj_iinc (pc := 69) dX9_readyAhead_69 (Nat.le_of_ble_eq_true rfl) rfl ?_
            dsimp only [lsSt, List.set, mLs, mEnt]
            refine rj_iinc (pc := 72) dX9_readyAhead_72 (Nat.le_of_ble_eq_true rfl) rfl ?_
            dsimp only [lsSt, List.set, mLs, mEnt]
            refine r_goto (pc := 75) (tgt := 11) dX9_readyAhead_75 (by decide) ?_
            have e1 : ((t + 1 : Nat) : Int) = (t : Int) + 1 := by omega
            have e2 := cnt_t (p := raB c a) (n := t) (decide_eq_true (⟨c_42, Or.inl c_51⟩))
            have z := fun o0 => ih (t + 1) o0 (by omega)
            simp only [e1, ← e2] at z
            exact z _
          · try simp only [b01_0, bz_0, Classical.not_not] at c_51
            refine r_iload (pc := 54) dX9_readyAhead_54 rfl ?_
            refine r_iload_n (pc := 56) dX9_readyAhead_56 rfl ?_
            refine rj_icmp_ge (pc := 57) (tgt := 72) dX9_readyAhead_57 (by decide) (by first | exact b01_r | exact bz_r | omega | (constructor <;> omega) | apply_assumption | (apply atF_r; assumption) | fail "no range") (by first | exact b01_r | exact bz_r | omega | (constructor <;> omega) | apply_assumption | (apply atF_r; assumption) | fail "no range") (fun c_57 => ?_) (fun c_57 => ?_)
            · refine rj_iinc (pc := 72) dX9_readyAhead_72 (Nat.le_of_ble_eq_true rfl) rfl ?_
              dsimp only [lsSt, List.set, mLs, mEnt]
              refine r_goto (pc := 75) (tgt := 11) dX9_readyAhead_75 (by decide) ?_
              have e1 : ((t + 1 : Nat) : Int) = (t : Int) + 1 := by omega
              have e2 := cnt_f (p := raB c a) (n := t) (decide_eq_false (fun g => g.2.elim (fun z => c_51 z) (fun z => absurd z.1 (by omega))))
              rw [Int.add_zero] at e2
              have z := fun o0 => ih (t + 1) o0 (by omega)
              simp only [e1, ← e2] at z
              exact z _
            · refine r_aload_n (pc := 60) dX9_readyAhead_60 rfl (by first | rfl | exact isRefV_rf _) ?_
              refine r_aload (pc := 61) dX9_readyAhead_61 rfl (by first | rfl | exact isRefV_rf _) ?_
              refine r_callV1 (pc := 63) dX9_readyAhead_63 qX7_comesAheadOf kX9_190 vX7_comesAheadOf (by first | assumption | exact isI.gx (by assumption) | exact isI.gc (by assumption) | exact isW.gx (by assumption) | exact isW.gF (by assumption) | exact isW.gT (by assumption) (by omega) | exact isW.gS (by assumption) (by omega) | exact isW.gK (by assumption) (by omega) | exact isW.g1 (by assumption) | exact isW.g2 (by assumption) | exact isW.g3 (by assumption) | exact isI.gx (isW.i0 (by assumption)) | exact isI.gc (isW.i0 (by assumption)) | exact isI.gx (isW.i1 (by assumption)) | exact isI.gc (isW.i1 (by assumption)) | exact isI.gx (isW.i2 (by assumption)) | exact isI.gc (isW.i2 (by assumption)) | exact isI.gx (isW.i3 (by assumption)) | exact isI.gc (isW.i3 (by assumption)) | exact isI.gx (isW.i4 (by assumption)) | exact isI.gc (isW.i4 (by assumption)) | exact isI.gx (isW.i5 (by assumption)) | exact isI.gc (isW.i5 (by assumption)) | exact isR.gx (by assumption) | exact isRd.gx (by assumption) | exact isSp.gx (by assumption) | exact isI.gx (isR.i (by assumption)) | exact isI.gx (isRd.i (by assumption)) | exact isI.gc (isRd.i (by assumption)) | exact isI.gx (isSp.i (by assumption)) | exact isW.gx (isR.w (by assumption)) | exact isW.gF (isR.w (by assumption)) | fail "no such object") rfl rfl (Nat.le_of_ble_eq_true rfl) (cw_comesAheadOf _ hW hc (a := a) (b := t) (by omega) (by omega)) (fun v_63 h_63 q_63 => ?_)
              obtain ⟨rfl, rfl⟩ := q_63
              refine rj_if_ne (pc := 66) (tgt := 72) dX9_readyAhead_66 (by decide) (by first | exact b01_r | exact bz_r | omega | (constructor <;> omega) | apply_assumption | (apply atF_r; assumption) | fail "no range") (fun c_66 => ?_) (fun c_66 => ?_)
              · try simp only [b01_0, bz_0, Classical.not_not] at c_66
                refine rj_iinc (pc := 72) dX9_readyAhead_72 (Nat.le_of_ble_eq_true rfl) rfl ?_
                dsimp only [lsSt, List.set, mLs, mEnt]
                refine r_goto (pc := 75) (tgt := 11) dX9_readyAhead_75 (by decide) ?_
                have e1 : ((t + 1 : Nat) : Int) = (t : Int) + 1 := by omega
                have e2 := cnt_f (p := raB c a) (n := t) (decide_eq_false (fun g => g.2.elim (fun z => c_51 z) (fun z => z.2 c_66)))
                rw [Int.add_zero] at e2
                have z := fun o0 => ih (t + 1) o0 (by omega)
                simp only [e1, ← e2] at z
                exact z _
              · try simp only [b01_0, bz_0, Classical.not_not] at c_66
                refine rj_iinc (pc := 69) dX9_readyAhead_69 (Nat.le_of_ble_eq_true rfl) rfl ?_
                dsimp only [lsSt, List.set, mLs, mEnt]
                refine rj_iinc (pc := 72) dX9_readyAhead_72 (Nat.le_of_ble_eq_true rfl) rfl ?_
                dsimp only [lsSt, List.set, mLs, mEnt]
                refine r_goto (pc := 75) (tgt := 11) dX9_readyAhead_75 (by decide) ?_
                have e1 : ((t + 1 : Nat) : Int) = (t : Int) + 1 := by omega
                have e2 := cnt_t (p := raB c a) (n := t) (decide_eq_true (⟨c_42, Or.inr ⟨by omega, c_66⟩⟩))
                have z := fun o0 => ih (t + 1) o0 (by omega)
                simp only [e1, ← e2] at z
                exact z _
set_option maxHeartbeats 4000000 in
set_option maxRecDepth 100000 in
theorem cq_readyAhead {G : mG} {l : Launch} (d : Nat) {h : mH} {w : Nat} {c : Nat → Int} {C : Nat → Nat → Int} {nm : Nat → Int64} {g : Nat → Option Nat} (hW : isW h w c C nm g) (hc : ∀ q, InR (c q)) {K : Nat} (hK : c 2 = (K : Int)) (hcapK : K ≤ 10) {a : Nat} (ha : a < K) : RUNM G l (d + 2) mX9_readyAhead [.ref w, .int (J (a : Int))] h (fun v h' => v = some (.int (J (cnt (raB c a) K))) ∧ h' = h) := by
  refine RUNM.of (by decide +kernel) (Nat.le_of_ble_eq_true rfl) ?_
  refine r_aload_n (pc := 0) dX9_readyAhead_0 rfl (by first | rfl | exact isRefV_rf _) ?_
  refine r_iload_n (pc := 1) dX9_readyAhead_1 rfl ?_
  refine r_callV1 (pc := 2) dX9_readyAhead_2 qX9_taskAt kX9_128 vX9_taskAt (by first | assumption | exact isI.gx (by assumption) | exact isI.gc (by assumption) | exact isW.gx (by assumption) | exact isW.gF (by assumption) | exact isW.gT (by assumption) (by omega) | exact isW.gS (by assumption) (by omega) | exact isW.gK (by assumption) (by omega) | exact isW.g1 (by assumption) | exact isW.g2 (by assumption) | exact isW.g3 (by assumption) | exact isI.gx (isW.i0 (by assumption)) | exact isI.gc (isW.i0 (by assumption)) | exact isI.gx (isW.i1 (by assumption)) | exact isI.gc (isW.i1 (by assumption)) | exact isI.gx (isW.i2 (by assumption)) | exact isI.gc (isW.i2 (by assumption)) | exact isI.gx (isW.i3 (by assumption)) | exact isI.gc (isW.i3 (by assumption)) | exact isI.gx (isW.i4 (by assumption)) | exact isI.gc (isW.i4 (by assumption)) | exact isI.gx (isW.i5 (by assumption)) | exact isI.gc (isW.i5 (by assumption)) | exact isR.gx (by assumption) | exact isRd.gx (by assumption) | exact isSp.gx (by assumption) | exact isI.gx (isR.i (by assumption)) | exact isI.gx (isRd.i (by assumption)) | exact isI.gc (isRd.i (by assumption)) | exact isI.gx (isSp.i (by assumption)) | exact isW.gx (isR.w (by assumption)) | exact isW.gF (isR.w (by assumption)) | fail "no such object") rfl rfl (Nat.le_of_ble_eq_true rfl) (cw_taskAt _ hW hc (i := (a : Int)) ⟨by omega, by omega⟩) (fun v_2 h_2 q_2 => ?_)
  obtain ⟨q1_2, rfl⟩ := q_2
  · obtain rfl := tkAt_P (by omega) q1_2
    refine r_astore_n (pc := 5) dX9_readyAhead_5 (Nat.le_of_ble_eq_true rfl) (by first | rfl | exact isRefV_rf _) ?_
    dsimp only [lsSt, List.set, mLs, mEnt]
    refine rj_iconst (pc := 6) dX9_readyAhead_6 ?_
    refine r_istore_n (pc := 7) dX9_readyAhead_7 (Nat.le_of_ble_eq_true rfl) ?_
    dsimp only [lsSt, List.set, mLs, mEnt]
    refine rj_iconst (pc := 8) dX9_readyAhead_8 ?_
    refine r_istore (pc := 9) dX9_readyAhead_9 (Nat.le_of_ble_eq_true rfl) ?_
    dsimp only [lsSt, List.set, mLs, mEnt]
    exact L_readyAhead d hW hc hK hcapK ha K 0 _ (by omega)
def rpL (c : Nat → Int) (K : Nat) (i : Int) : Nat → Nat → Int
  | 0, _ => -5
  | n + 1, t => if c (489 + 9 * t) = 0 ∧ cnt (raB c t) K = i then (t : Int) else rpL c K i n (t + 1)
set_option maxHeartbeats 4000000 in
set_option maxRecDepth 100000 in
theorem L_readyAtPlace {G : mG} {l : Launch} (d : Nat) {h : mH} {w : Nat} {c : Nat → Int} {C : Nat → Nat → Int} {nm : Nat → Int64} {g : Nat → Option Nat} (hW : isW h w c C nm g) (hc : ∀ q, InR (c q)) {K : Nat} (hK : c 2 = (K : Int)) (hcapK : K ≤ 10) {i : Int} (hi : InR i) : ∀ n t : Nat, t + n = K → RUN G l (d + 3) mX9_readyAtPlace 2 [some (.ref w), some (.int (J i)), some (.int (J (t : Int)))] [] h (fun v h' => v = some (.int (J (rpL c K i n t))) ∧ h' = h) := by
  intro n
  induction n with
  | zero =>
    intro t ht
    refine r_iload_n (pc := 2) dX9_readyAtPlace_2 rfl ?_
    refine r_aload_n (pc := 3) dX9_readyAtPlace_3 rfl (by first | rfl | exact isRefV_rf _) ?_
    refine r_getf (pc := 4) dX9_readyAtPlace_4 fX9_81 (by first | assumption | exact isI.gx (by assumption) | exact isI.gc (by assumption) | exact isW.gx (by assumption) | exact isW.gF (by assumption) | exact isW.gT (by assumption) (by omega) | exact isW.gS (by assumption) (by omega) | exact isW.gK (by assumption) (by omega) | exact isW.g1 (by assumption) | exact isW.g2 (by assumption) | exact isW.g3 (by assumption) | exact isI.gx (isW.i0 (by assumption)) | exact isI.gc (isW.i0 (by assumption)) | exact isI.gx (isW.i1 (by assumption)) | exact isI.gc (isW.i1 (by assumption)) | exact isI.gx (isW.i2 (by assumption)) | exact isI.gc (isW.i2 (by assumption)) | exact isI.gx (isW.i3 (by assumption)) | exact isI.gc (isW.i3 (by assumption)) | exact isI.gx (isW.i4 (by assumption)) | exact isI.gc (isW.i4 (by assumption)) | exact isI.gx (isW.i5 (by assumption)) | exact isI.gc (isW.i5 (by assumption)) | exact isR.gx (by assumption) | exact isRd.gx (by assumption) | exact isSp.gx (by assumption) | exact isI.gx (isR.i (by assumption)) | exact isI.gx (isRd.i (by assumption)) | exact isI.gc (isRd.i (by assumption)) | exact isI.gx (isSp.i (by assumption)) | exact isW.gx (isR.w (by assumption)) | exact isW.gF (isR.w (by assumption)) | fail "no such object") (by rfl) ?_
    refine rj_icmp_ge (pc := 7) (tgt := 35) dX9_readyAtPlace_7 (by decide) (by first | exact b01_r | exact bz_r | omega | (constructor <;> omega) | apply_assumption | (apply atF_r; assumption) | fail "no range") (by first | exact b01_r | exact bz_r | omega | (constructor <;> omega) | apply_assumption | (apply atF_r; assumption) | fail "no range") (fun c_7 => ?_) (fun c_7 => ?_)
    · refine rj_bipush (pc := 35) dX9_readyAtPlace_35 (by decide +kernel) ?_
      refine r_ireturn (pc := 37) .int dX9_readyAtPlace_37 rfl (by first | rfl | assumption) ?_
      exact ⟨rfl, rfl⟩
    · exfalso; omega
  | succ n ih =>
    intro t ht
    refine r_iload_n (pc := 2) dX9_readyAtPlace_2 rfl ?_
    refine r_aload_n (pc := 3) dX9_readyAtPlace_3 rfl (by first | rfl | exact isRefV_rf _) ?_
    refine r_getf (pc := 4) dX9_readyAtPlace_4 fX9_81 (by first | assumption | exact isI.gx (by assumption) | exact isI.gc (by assumption) | exact isW.gx (by assumption) | exact isW.gF (by assumption) | exact isW.gT (by assumption) (by omega) | exact isW.gS (by assumption) (by omega) | exact isW.gK (by assumption) (by omega) | exact isW.g1 (by assumption) | exact isW.g2 (by assumption) | exact isW.g3 (by assumption) | exact isI.gx (isW.i0 (by assumption)) | exact isI.gc (isW.i0 (by assumption)) | exact isI.gx (isW.i1 (by assumption)) | exact isI.gc (isW.i1 (by assumption)) | exact isI.gx (isW.i2 (by assumption)) | exact isI.gc (isW.i2 (by assumption)) | exact isI.gx (isW.i3 (by assumption)) | exact isI.gc (isW.i3 (by assumption)) | exact isI.gx (isW.i4 (by assumption)) | exact isI.gc (isW.i4 (by assumption)) | exact isI.gx (isW.i5 (by assumption)) | exact isI.gc (isW.i5 (by assumption)) | exact isR.gx (by assumption) | exact isRd.gx (by assumption) | exact isSp.gx (by assumption) | exact isI.gx (isR.i (by assumption)) | exact isI.gx (isRd.i (by assumption)) | exact isI.gc (isRd.i (by assumption)) | exact isI.gx (isSp.i (by assumption)) | exact isW.gx (isR.w (by assumption)) | exact isW.gF (isR.w (by assumption)) | fail "no such object") (by rfl) ?_
    refine rj_icmp_ge (pc := 7) (tgt := 35) dX9_readyAtPlace_7 (by decide) (by first | exact b01_r | exact bz_r | omega | (constructor <;> omega) | apply_assumption | (apply atF_r; assumption) | fail "no range") (by first | exact b01_r | exact bz_r | omega | (constructor <;> omega) | apply_assumption | (apply atF_r; assumption) | fail "no range") (fun c_7 => ?_) (fun c_7 => ?_)
    · refine rj_bipush (pc := 35) dX9_readyAtPlace_35 (by decide +kernel) ?_
      refine r_ireturn (pc := 37) .int dX9_readyAtPlace_37 rfl (by first | rfl | assumption) ?_
      first | (exfalso; omega) | exact ⟨by rw [rpL, if_pos (⟨c_15, c_24⟩)], rfl⟩
    · refine r_aload_n (pc := 10) dX9_readyAtPlace_10 rfl (by first | rfl | exact isRefV_rf _) ?_
      refine r_iload_n (pc := 11) dX9_readyAtPlace_11 rfl ?_
      refine r_callV1 (pc := 12) dX9_readyAtPlace_12 qX9_isReady kX9_184 vX9_isReady (by first | assumption | exact isI.gx (by assumption) | exact isI.gc (by assumption) | exact isW.gx (by assumption) | exact isW.gF (by assumption) | exact isW.gT (by assumption) (by omega) | exact isW.gS (by assumption) (by omega) | exact isW.gK (by assumption) (by omega) | exact isW.g1 (by assumption) | exact isW.g2 (by assumption) | exact isW.g3 (by assumption) | exact isI.gx (isW.i0 (by assumption)) | exact isI.gc (isW.i0 (by assumption)) | exact isI.gx (isW.i1 (by assumption)) | exact isI.gc (isW.i1 (by assumption)) | exact isI.gx (isW.i2 (by assumption)) | exact isI.gc (isW.i2 (by assumption)) | exact isI.gx (isW.i3 (by assumption)) | exact isI.gc (isW.i3 (by assumption)) | exact isI.gx (isW.i4 (by assumption)) | exact isI.gc (isW.i4 (by assumption)) | exact isI.gx (isW.i5 (by assumption)) | exact isI.gc (isW.i5 (by assumption)) | exact isR.gx (by assumption) | exact isRd.gx (by assumption) | exact isSp.gx (by assumption) | exact isI.gx (isR.i (by assumption)) | exact isI.gx (isRd.i (by assumption)) | exact isI.gc (isRd.i (by assumption)) | exact isI.gx (isSp.i (by assumption)) | exact isW.gx (isR.w (by assumption)) | exact isW.gF (isR.w (by assumption)) | fail "no such object") rfl rfl (Nat.le_of_ble_eq_true rfl) (cn_isReady _ hW hc (t := t) (by omega) (by omega)) (fun v_12 h_12 q_12 => ?_)
      obtain ⟨rfl, rfl⟩ := q_12
      refine rj_if_eq (pc := 15) (tgt := 29) dX9_readyAtPlace_15 (by decide) (by first | exact b01_r | exact bz_r | omega | (constructor <;> omega) | apply_assumption | (apply atF_r; assumption) | fail "no range") (fun c_15 => ?_) (fun c_15 => ?_)
      · try simp only [b01_0, bz_0, Classical.not_not] at c_15
        refine rj_iinc (pc := 29) dX9_readyAtPlace_29 (Nat.le_of_ble_eq_true rfl) rfl ?_
        dsimp only [lsSt, List.set, mLs, mEnt]
        refine r_goto (pc := 32) (tgt := 2) dX9_readyAtPlace_32 (by decide) ?_
        have z := ih (t + 1) (by omega)
        rw [show ((t + 1 : Nat) : Int) = (t : Int) + 1 by omega] at z
        rw [rpL, if_neg (fun g => c_15 g.1)]
        exact z
      · try simp only [b01_0, bz_0, Classical.not_not] at c_15
        refine r_aload_n (pc := 18) dX9_readyAtPlace_18 rfl (by first | rfl | exact isRefV_rf _) ?_
        refine r_iload_n (pc := 19) dX9_readyAtPlace_19 rfl ?_
        refine r_callV1 (pc := 20) dX9_readyAtPlace_20 qX9_readyAhead kX9_187 vX9_readyAhead (by first | assumption | exact isI.gx (by assumption) | exact isI.gc (by assumption) | exact isW.gx (by assumption) | exact isW.gF (by assumption) | exact isW.gT (by assumption) (by omega) | exact isW.gS (by assumption) (by omega) | exact isW.gK (by assumption) (by omega) | exact isW.g1 (by assumption) | exact isW.g2 (by assumption) | exact isW.g3 (by assumption) | exact isI.gx (isW.i0 (by assumption)) | exact isI.gc (isW.i0 (by assumption)) | exact isI.gx (isW.i1 (by assumption)) | exact isI.gc (isW.i1 (by assumption)) | exact isI.gx (isW.i2 (by assumption)) | exact isI.gc (isW.i2 (by assumption)) | exact isI.gx (isW.i3 (by assumption)) | exact isI.gc (isW.i3 (by assumption)) | exact isI.gx (isW.i4 (by assumption)) | exact isI.gc (isW.i4 (by assumption)) | exact isI.gx (isW.i5 (by assumption)) | exact isI.gc (isW.i5 (by assumption)) | exact isR.gx (by assumption) | exact isRd.gx (by assumption) | exact isSp.gx (by assumption) | exact isI.gx (isR.i (by assumption)) | exact isI.gx (isRd.i (by assumption)) | exact isI.gc (isRd.i (by assumption)) | exact isI.gx (isSp.i (by assumption)) | exact isW.gx (isR.w (by assumption)) | exact isW.gF (isR.w (by assumption)) | fail "no such object") rfl rfl (Nat.le_of_ble_eq_true rfl) (cq_readyAhead _ hW hc hK hcapK (a := t) (by omega)) (fun v_20 h_20 q_20 => ?_)
        obtain ⟨rfl, rfl⟩ := q_20
        have rk := cnt_r (raB c t) K
        refine r_iload_n (pc := 23) dX9_readyAtPlace_23 rfl ?_
        refine rj_icmp_ne (pc := 24) (tgt := 29) dX9_readyAtPlace_24 (by decide) (by first | exact b01_r | exact bz_r | omega | (constructor <;> omega) | apply_assumption | (apply atF_r; assumption) | fail "no range") (by first | exact b01_r | exact bz_r | omega | (constructor <;> omega) | apply_assumption | (apply atF_r; assumption) | fail "no range") (fun c_24 => ?_) (fun c_24 => ?_)
        · refine rj_iinc (pc := 29) dX9_readyAtPlace_29 (Nat.le_of_ble_eq_true rfl) rfl ?_
          dsimp only [lsSt, List.set, mLs, mEnt]
          refine r_goto (pc := 32) (tgt := 2) dX9_readyAtPlace_32 (by decide) ?_
          have z := ih (t + 1) (by omega)
          rw [show ((t + 1 : Nat) : Int) = (t : Int) + 1 by omega] at z
          rw [rpL, if_neg (fun g => c_24 g.2)]
          exact z
        · refine r_iload_n (pc := 27) dX9_readyAtPlace_27 rfl ?_
          refine r_ireturn (pc := 28) .int dX9_readyAtPlace_28 rfl (by first | rfl | assumption) ?_
          first | (exfalso; omega) | exact ⟨by rw [rpL, if_pos (⟨c_15, c_24⟩)], rfl⟩
set_option maxHeartbeats 4000000 in
set_option maxRecDepth 100000 in
theorem cq_readyAtPlace {G : mG} {l : Launch} (d : Nat) {h : mH} {w : Nat} {c : Nat → Int} {C : Nat → Nat → Int} {nm : Nat → Int64} {g : Nat → Option Nat} (hW : isW h w c C nm g) (hc : ∀ q, InR (c q)) {K : Nat} (hK : c 2 = (K : Int)) (hcapK : K ≤ 10) {i : Int} (hi : InR i) : RUNM G l (d + 3) mX9_readyAtPlace [.ref w, .int (J i)] h (fun v h' => v = some (.int (J (rpL c K i K 0))) ∧ h' = h) := by
  refine RUNM.of (by decide +kernel) (Nat.le_of_ble_eq_true rfl) ?_
  refine rj_iconst (pc := 0) dX9_readyAtPlace_0 ?_
  refine r_istore_n (pc := 1) dX9_readyAtPlace_1 (Nat.le_of_ble_eq_true rfl) ?_
  dsimp only [lsSt, List.set, mLs, mEnt]
  exact L_readyAtPlace d hW hc hK hcapK hi K 0 (by omega)
def nsB (c : Nat → Int) (i : Int) (t : Nat) : Bool := decide (c (306 + 3 * t) = i ∧ ¬ c (304 + 3 * t) = 1)
set_option maxHeartbeats 4000000 in
set_option maxRecDepth 100000 in
theorem L_scopesNotShutOf {G : mG} {l : Launch} (d : Nat) {h : mH} {w : Nat} {c : Nat → Int} {C : Nat → Nat → Int} {nm : Nat → Int64} {g : Nat → Option Nat} (hW : isW h w c C nm g) (hc : ∀ q, InR (c q)) {S : Nat} (hS : c 1 = (S : Int)) (hcapS : S ≤ 60) {i : Int} (hi : InR i) : ∀ (k t : Nat) (o0 : Option Value), t + k = S → RUN G l (d + 1) mX9_scopesNotShutOf 4 [some (.ref w), some (.int (J i)), some (.int (J (cnt (nsB c i) t))), some (.int (J (t : Int))), o0] [] h (fun v h' => v = some (.int (J (cnt (nsB c i) S))) ∧ h' = h) := by
  intro k
  induction k with
  | zero =>
    intro t o0 ht
    refine r_iload_n (pc := 4) dX9_scopesNotShutOf_4 rfl ?_
    refine r_aload_n (pc := 5) dX9_scopesNotShutOf_5 rfl (by first | rfl | exact isRefV_rf _) ?_
    refine r_getf (pc := 6) dX9_scopesNotShutOf_6 fX9_57 (by first | assumption | exact isI.gx (by assumption) | exact isI.gc (by assumption) | exact isW.gx (by assumption) | exact isW.gF (by assumption) | exact isW.gT (by assumption) (by omega) | exact isW.gS (by assumption) (by omega) | exact isW.gK (by assumption) (by omega) | exact isW.g1 (by assumption) | exact isW.g2 (by assumption) | exact isW.g3 (by assumption) | exact isI.gx (isW.i0 (by assumption)) | exact isI.gc (isW.i0 (by assumption)) | exact isI.gx (isW.i1 (by assumption)) | exact isI.gc (isW.i1 (by assumption)) | exact isI.gx (isW.i2 (by assumption)) | exact isI.gc (isW.i2 (by assumption)) | exact isI.gx (isW.i3 (by assumption)) | exact isI.gc (isW.i3 (by assumption)) | exact isI.gx (isW.i4 (by assumption)) | exact isI.gc (isW.i4 (by assumption)) | exact isI.gx (isW.i5 (by assumption)) | exact isI.gc (isW.i5 (by assumption)) | exact isR.gx (by assumption) | exact isRd.gx (by assumption) | exact isSp.gx (by assumption) | exact isI.gx (isR.i (by assumption)) | exact isI.gx (isRd.i (by assumption)) | exact isI.gc (isRd.i (by assumption)) | exact isI.gx (isSp.i (by assumption)) | exact isW.gx (isR.w (by assumption)) | exact isW.gF (isR.w (by assumption)) | fail "no such object") (by rfl) ?_
    refine rj_icmp_ge (pc := 9) (tgt := 51) dX9_scopesNotShutOf_9 (by decide) (by first | exact b01_r | exact bz_r | omega | (constructor <;> omega) | apply_assumption | (apply atF_r; assumption) | fail "no range") (by first | exact b01_r | exact bz_r | omega | (constructor <;> omega) | apply_assumption | (apply atF_r; assumption) | fail "no range") (fun c_9 => ?_) (fun c_9 => ?_)
    · refine r_iload_n (pc := 51) dX9_scopesNotShutOf_51 rfl ?_
      refine r_ireturn (pc := 52) .int dX9_scopesNotShutOf_52 rfl (by first | rfl | assumption) ?_
      obtain rfl : t = S := by omega
      exact ⟨rfl, rfl⟩
    · exfalso; omega
  | succ k ih =>
    intro t o0 ht
    refine r_iload_n (pc := 4) dX9_scopesNotShutOf_4 rfl ?_
    refine r_aload_n (pc := 5) dX9_scopesNotShutOf_5 rfl (by first | rfl | exact isRefV_rf _) ?_
    refine r_getf (pc := 6) dX9_scopesNotShutOf_6 fX9_57 (by first | assumption | exact isI.gx (by assumption) | exact isI.gc (by assumption) | exact isW.gx (by assumption) | exact isW.gF (by assumption) | exact isW.gT (by assumption) (by omega) | exact isW.gS (by assumption) (by omega) | exact isW.gK (by assumption) (by omega) | exact isW.g1 (by assumption) | exact isW.g2 (by assumption) | exact isW.g3 (by assumption) | exact isI.gx (isW.i0 (by assumption)) | exact isI.gc (isW.i0 (by assumption)) | exact isI.gx (isW.i1 (by assumption)) | exact isI.gc (isW.i1 (by assumption)) | exact isI.gx (isW.i2 (by assumption)) | exact isI.gc (isW.i2 (by assumption)) | exact isI.gx (isW.i3 (by assumption)) | exact isI.gc (isW.i3 (by assumption)) | exact isI.gx (isW.i4 (by assumption)) | exact isI.gc (isW.i4 (by assumption)) | exact isI.gx (isW.i5 (by assumption)) | exact isI.gc (isW.i5 (by assumption)) | exact isR.gx (by assumption) | exact isRd.gx (by assumption) | exact isSp.gx (by assumption) | exact isI.gx (isR.i (by assumption)) | exact isI.gx (isRd.i (by assumption)) | exact isI.gc (isRd.i (by assumption)) | exact isI.gx (isSp.i (by assumption)) | exact isW.gx (isR.w (by assumption)) | exact isW.gF (isR.w (by assumption)) | fail "no such object") (by rfl) ?_
    refine rj_icmp_ge (pc := 9) (tgt := 51) dX9_scopesNotShutOf_9 (by decide) (by first | exact b01_r | exact bz_r | omega | (constructor <;> omega) | apply_assumption | (apply atF_r; assumption) | fail "no range") (by first | exact b01_r | exact bz_r | omega | (constructor <;> omega) | apply_assumption | (apply atF_r; assumption) | fail "no range") (fun c_9 => ?_) (fun c_9 => ?_)
    · refine r_iload_n (pc := 51) dX9_scopesNotShutOf_51 rfl ?_
      refine r_ireturn (pc := 52) .int dX9_scopesNotShutOf_52 rfl (by first | rfl | assumption) ?_
      exfalso; omega
    · refine r_aload_n (pc := 12) dX9_scopesNotShutOf_12 rfl (by first | rfl | exact isRefV_rf _) ?_
      refine r_iload_n (pc := 13) dX9_scopesNotShutOf_13 rfl ?_
      refine r_callV1 (pc := 14) dX9_scopesNotShutOf_14 qX9_scopeAt kX9_61 vX9_scopeAt (by first | assumption | exact isI.gx (by assumption) | exact isI.gc (by assumption) | exact isW.gx (by assumption) | exact isW.gF (by assumption) | exact isW.gT (by assumption) (by omega) | exact isW.gS (by assumption) (by omega) | exact isW.gK (by assumption) (by omega) | exact isW.g1 (by assumption) | exact isW.g2 (by assumption) | exact isW.g3 (by assumption) | exact isI.gx (isW.i0 (by assumption)) | exact isI.gc (isW.i0 (by assumption)) | exact isI.gx (isW.i1 (by assumption)) | exact isI.gc (isW.i1 (by assumption)) | exact isI.gx (isW.i2 (by assumption)) | exact isI.gc (isW.i2 (by assumption)) | exact isI.gx (isW.i3 (by assumption)) | exact isI.gc (isW.i3 (by assumption)) | exact isI.gx (isW.i4 (by assumption)) | exact isI.gc (isW.i4 (by assumption)) | exact isI.gx (isW.i5 (by assumption)) | exact isI.gc (isW.i5 (by assumption)) | exact isR.gx (by assumption) | exact isRd.gx (by assumption) | exact isSp.gx (by assumption) | exact isI.gx (isR.i (by assumption)) | exact isI.gx (isRd.i (by assumption)) | exact isI.gc (isRd.i (by assumption)) | exact isI.gx (isSp.i (by assumption)) | exact isW.gx (isR.w (by assumption)) | exact isW.gF (isR.w (by assumption)) | fail "no such object") rfl rfl (Nat.le_of_ble_eq_true rfl) (cw_scopeAt _ hW hc (i := (t : Int)) ⟨by omega, by omega⟩) (fun v_14 h_14 q_14 => ?_)
      obtain ⟨q1_14, rfl⟩ := q_14
      · obtain rfl := scAt_P (by omega) q1_14
        refine r_astore (pc := 17) dX9_scopesNotShutOf_17 (Nat.le_of_ble_eq_true rfl) (by first | rfl | exact isRefV_rf _) ?_
        dsimp only [lsSt, List.set, mLs, mEnt]
        refine r_aload (pc := 19) dX9_scopesNotShutOf_19 rfl (by first | rfl | exact isRefV_rf _) ?_
        refine r_ifnull (pc := 21) (tgt := 45) dX9_scopesNotShutOf_21 (by decide) (by first | rfl | exact isRefV_rf _) (fun c_21 => by cases c_21) (fun a_21 c_21 => ?_)
        refine r_aload (pc := 24) dX9_scopesNotShutOf_24 rfl (by first | rfl | exact isRefV_rf _) ?_
        refine r_getf (pc := 26) dX9_scopesNotShutOf_26 fX9_68 (by first | assumption | exact isI.gx (by assumption) | exact isI.gc (by assumption) | exact isW.gx (by assumption) | exact isW.gF (by assumption) | exact isW.gT (by assumption) (by omega) | exact isW.gS (by assumption) (by omega) | exact isW.gK (by assumption) (by omega) | exact isW.g1 (by assumption) | exact isW.g2 (by assumption) | exact isW.g3 (by assumption) | exact isI.gx (isW.i0 (by assumption)) | exact isI.gc (isW.i0 (by assumption)) | exact isI.gx (isW.i1 (by assumption)) | exact isI.gc (isW.i1 (by assumption)) | exact isI.gx (isW.i2 (by assumption)) | exact isI.gc (isW.i2 (by assumption)) | exact isI.gx (isW.i3 (by assumption)) | exact isI.gc (isW.i3 (by assumption)) | exact isI.gx (isW.i4 (by assumption)) | exact isI.gc (isW.i4 (by assumption)) | exact isI.gx (isW.i5 (by assumption)) | exact isI.gc (isW.i5 (by assumption)) | exact isR.gx (by assumption) | exact isRd.gx (by assumption) | exact isSp.gx (by assumption) | exact isI.gx (isR.i (by assumption)) | exact isI.gx (isRd.i (by assumption)) | exact isI.gc (isRd.i (by assumption)) | exact isI.gx (isSp.i (by assumption)) | exact isW.gx (isR.w (by assumption)) | exact isW.gF (isR.w (by assumption)) | fail "no such object") (by rfl) ?_
        refine r_iload_n (pc := 29) dX9_scopesNotShutOf_29 rfl ?_
        refine rj_icmp_ne (pc := 30) (tgt := 45) dX9_scopesNotShutOf_30 (by decide) (by first | exact b01_r | exact bz_r | omega | (constructor <;> omega) | apply_assumption | (apply atF_r; assumption) | fail "no range") (by first | exact b01_r | exact bz_r | omega | (constructor <;> omega) | apply_assumption | (apply atF_r; assumption) | fail "no range") (fun c_30 => ?_) (fun c_30 => ?_)
        · refine rj_iinc (pc := 45) dX9_scopesNotShutOf_45 (Nat.le_of_ble_eq_true rfl) rfl ?_
          dsimp only [lsSt, List.set, mLs, mEnt]
          refine r_goto (pc := 48) (tgt := 4) dX9_scopesNotShutOf_48 (by decide) ?_
          have e1 : ((t + 1 : Nat) : Int) = (t : Int) + 1 := by omega
          have e2 := cnt_f (p := nsB c i) (n := t) (decide_eq_false (fun g => c_30 g.1))
          rw [Int.add_zero] at e2
          have z := fun o0 => ih (t + 1) o0 (by omega)
          simp only [e1, ← e2] at z
          exact z _
        · refine r_aload (pc := 33) dX9_scopesNotShutOf_33 rfl (by first | rfl | exact isRefV_rf _) ?_
          refine r_getf (pc := 35) dX9_scopesNotShutOf_35 fX9_127 (by first | assumption | exact isI.gx (by assumption) | exact isI.gc (by assumption) | exact isW.gx (by assumption) | exact isW.gF (by assumption) | exact isW.gT (by assumption) (by omega) | exact isW.gS (by assumption) (by omega) | exact isW.gK (by assumption) (by omega) | exact isW.g1 (by assumption) | exact isW.g2 (by assumption) | exact isW.g3 (by assumption) | exact isI.gx (isW.i0 (by assumption)) | exact isI.gc (isW.i0 (by assumption)) | exact isI.gx (isW.i1 (by assumption)) | exact isI.gc (isW.i1 (by assumption)) | exact isI.gx (isW.i2 (by assumption)) | exact isI.gc (isW.i2 (by assumption)) | exact isI.gx (isW.i3 (by assumption)) | exact isI.gc (isW.i3 (by assumption)) | exact isI.gx (isW.i4 (by assumption)) | exact isI.gc (isW.i4 (by assumption)) | exact isI.gx (isW.i5 (by assumption)) | exact isI.gc (isW.i5 (by assumption)) | exact isR.gx (by assumption) | exact isRd.gx (by assumption) | exact isSp.gx (by assumption) | exact isI.gx (isR.i (by assumption)) | exact isI.gx (isRd.i (by assumption)) | exact isI.gc (isRd.i (by assumption)) | exact isI.gx (isSp.i (by assumption)) | exact isW.gx (isR.w (by assumption)) | exact isW.gF (isR.w (by assumption)) | fail "no such object") (by rfl) ?_
          refine rj_iconst (pc := 38) dX9_scopesNotShutOf_38 ?_
          refine rj_icmp_eq (pc := 39) (tgt := 45) dX9_scopesNotShutOf_39 (by decide) (by first | exact b01_r | exact bz_r | omega | (constructor <;> omega) | apply_assumption | (apply atF_r; assumption) | fail "no range") (by first | exact b01_r | exact bz_r | omega | (constructor <;> omega) | apply_assumption | (apply atF_r; assumption) | fail "no range") (fun c_39 => ?_) (fun c_39 => ?_)
          · refine rj_iinc (pc := 45) dX9_scopesNotShutOf_45 (Nat.le_of_ble_eq_true rfl) rfl ?_
            dsimp only [lsSt, List.set, mLs, mEnt]
            refine r_goto (pc := 48) (tgt := 4) dX9_scopesNotShutOf_48 (by decide) ?_
            have e1 : ((t + 1 : Nat) : Int) = (t : Int) + 1 := by omega
            have e2 := cnt_f (p := nsB c i) (n := t) (decide_eq_false (fun g => g.2 c_39))
            rw [Int.add_zero] at e2
            have z := fun o0 => ih (t + 1) o0 (by omega)
            simp only [e1, ← e2] at z
            exact z _
          · refine rj_iinc (pc := 42) dX9_scopesNotShutOf_42 (Nat.le_of_ble_eq_true rfl) rfl ?_
            dsimp only [lsSt, List.set, mLs, mEnt]
            refine rj_iinc (pc := 45) dX9_scopesNotShutOf_45 (Nat.le_of_ble_eq_true rfl) rfl ?_
            dsimp only [lsSt, List.set, mLs, mEnt]
            refine r_goto (pc := 48) (tgt := 4) dX9_scopesNotShutOf_48 (by decide) ?_
            have e1 : ((t + 1 : Nat) : Int) = (t : Int) + 1 := by omega
            have e2 := cnt_t (p := nsB c i) (n := t) (decide_eq_true (⟨c_30, c_39⟩))
            have z := fun o0 => ih (t + 1) o0 (by omega)
            simp only [e1, ← e2] at z
            exact z _
set_option maxHeartbeats 4000000 in
set_option maxRecDepth 100000 in
theorem cq_scopesNotShutOf {G : mG} {l : Launch} (d : Nat) {h : mH} {w : Nat} {c : Nat → Int} {C : Nat → Nat → Int} {nm : Nat → Int64} {g : Nat → Option Nat} (hW : isW h w c C nm g) (hc : ∀ q, InR (c q)) {S : Nat} (hS : c 1 = (S : Int)) (hcapS : S ≤ 60) {i : Int} (hi : InR i) : RUNM G l (d + 1) mX9_scopesNotShutOf [.ref w, .int (J i)] h (fun v h' => v = some (.int (J (cnt (nsB c i) S))) ∧ h' = h) := by
  refine RUNM.of (by decide +kernel) (Nat.le_of_ble_eq_true rfl) ?_
  refine rj_iconst (pc := 0) dX9_scopesNotShutOf_0 ?_
  refine r_istore_n (pc := 1) dX9_scopesNotShutOf_1 (Nat.le_of_ble_eq_true rfl) ?_
  dsimp only [lsSt, List.set, mLs, mEnt]
  refine rj_iconst (pc := 2) dX9_scopesNotShutOf_2 ?_
  refine r_istore_n (pc := 3) dX9_scopesNotShutOf_3 (Nat.le_of_ble_eq_true rfl) ?_
  dsimp only [lsSt, List.set, mLs, mEnt]
  exact L_scopesNotShutOf d hW hc hS hcapS hi S 0 _ (by omega)
theorem atF_t {n : Nat} {z : Int} {f : Nat → Int} {t : Nat} (h : (t : Int) < z) (h2 : t < n) : atF n z f (t : Int) = f t := by
  unfold atF; rw [if_pos ⟨by omega, h, by omega⟩]; rfl
set_option maxHeartbeats 4000000 in
set_option maxRecDepth 100000 in
theorem cn_ent {G : mG} {l : Launch} (d : Nat) {h : mH} {w : Nat} {c : Nat → Int} {C : Nat → Nat → Int} {nm : Nat → Int64} {g : Nat → Option Nat} (hW : isW h w c C nm g) (hc : ∀ q, InR (c q)) {Z : Nat} (hZ : c 10 = (Z : Int)) (hcapZ : Z ≤ 150) (hC : ∀ q, InR (C 2 q)) {t : Nat} (ht : t < Z) : RUNM G l (d + 1) mX1_at [.ref (wA w 8), .int (J (t : Int))] h (fun v h' => v = some (.int (J (C 2 t))) ∧ h' = h) := by
  have y := ci_at (G := G) (l := l) d hW.i2 (by decide) (hc _) (i := (t : Int)) ⟨by omega, by omega⟩
  rw [atF_t (by omega) (by omega)] at y
  exact y
def enB (c : Nat → Int) (f : Nat → Int) (i : Int) (t : Nat) : Bool := decide (ownF c (f t) = i)

set_option maxHeartbeats 4000000 in
set_option maxRecDepth 100000 in
theorem L_entriesOf {G : mG} {l : Launch} (d : Nat) {h : mH} {w : Nat} {c : Nat → Int} {C : Nat → Nat → Int} {nm : Nat → Int64} {g : Nat → Option Nat} (hW : isW h w c C nm g) (hc : ∀ q, InR (c q)) {Z : Nat} (hZ : c 10 = (Z : Int)) (hcapZ : Z ≤ 150) (hC : ∀ q, InR (C 2 q)) {i : Int} (hi : InR i) : ∀ k t : Nat, t + k = Z → RUN G l (d + 2) mX9_entriesOf 4 [some (.ref w), some (.int (J i)), some (.int (J (cnt (enB c (C 2) i) t))), some (.int (J (t : Int)))] [] h (fun v h' => v = some (.int (J (cnt (enB c (C 2) i) Z))) ∧ h' = h) := by
  intro k
  induction k with
  | zero =>
    intro t ht
    refine r_iload_n (pc := 4) dX9_entriesOf_4 rfl ?_
    refine r_aload_n (pc := 5) dX9_entriesOf_5 rfl (by first | rfl | exact isRefV_rf _) ?_
    refine r_getf (pc := 6) dX9_entriesOf_6 fX9_41 (by first | assumption | exact isI.gx (by assumption) | exact isI.gc (by assumption) | exact isW.gx (by assumption) | exact isW.gF (by assumption) | exact isW.gT (by assumption) (by omega) | exact isW.gS (by assumption) (by omega) | exact isW.gK (by assumption) (by omega) | exact isW.g1 (by assumption) | exact isW.g2 (by assumption) | exact isW.g3 (by assumption) | exact isI.gx (isW.i0 (by assumption)) | exact isI.gc (isW.i0 (by assumption)) | exact isI.gx (isW.i1 (by assumption)) | exact isI.gc (isW.i1 (by assumption)) | exact isI.gx (isW.i2 (by assumption)) | exact isI.gc (isW.i2 (by assumption)) | exact isI.gx (isW.i3 (by assumption)) | exact isI.gc (isW.i3 (by assumption)) | exact isI.gx (isW.i4 (by assumption)) | exact isI.gc (isW.i4 (by assumption)) | exact isI.gx (isW.i5 (by assumption)) | exact isI.gc (isW.i5 (by assumption)) | exact isR.gx (by assumption) | exact isRd.gx (by assumption) | exact isSp.gx (by assumption) | exact isI.gx (isR.i (by assumption)) | exact isI.gx (isRd.i (by assumption)) | exact isI.gc (isRd.i (by assumption)) | exact isI.gx (isSp.i (by assumption)) | exact isW.gx (isR.w (by assumption)) | exact isW.gF (isR.w (by assumption)) | fail "no such object") (by rfl) ?_
    refine r_getf (pc := 9) dX9_entriesOf_9 fX9_144 (by first | assumption | exact isI.gx (by assumption) | exact isI.gc (by assumption) | exact isW.gx (by assumption) | exact isW.gF (by assumption) | exact isW.gT (by assumption) (by omega) | exact isW.gS (by assumption) (by omega) | exact isW.gK (by assumption) (by omega) | exact isW.g1 (by assumption) | exact isW.g2 (by assumption) | exact isW.g3 (by assumption) | exact isI.gx (isW.i0 (by assumption)) | exact isI.gc (isW.i0 (by assumption)) | exact isI.gx (isW.i1 (by assumption)) | exact isI.gc (isW.i1 (by assumption)) | exact isI.gx (isW.i2 (by assumption)) | exact isI.gc (isW.i2 (by assumption)) | exact isI.gx (isW.i3 (by assumption)) | exact isI.gc (isW.i3 (by assumption)) | exact isI.gx (isW.i4 (by assumption)) | exact isI.gc (isW.i4 (by assumption)) | exact isI.gx (isW.i5 (by assumption)) | exact isI.gc (isW.i5 (by assumption)) | exact isR.gx (by assumption) | exact isRd.gx (by assumption) | exact isSp.gx (by assumption) | exact isI.gx (isR.i (by assumption)) | exact isI.gx (isRd.i (by assumption)) | exact isI.gc (isRd.i (by assumption)) | exact isI.gx (isSp.i (by assumption)) | exact isW.gx (isR.w (by assumption)) | exact isW.gF (isR.w (by assumption)) | fail "no such object") (by rfl) ?_
    refine rj_icmp_ge (pc := 12) (tgt := 40) dX9_entriesOf_12 (by decide) (by first | exact b01_r | exact bz_r | omega | (constructor <;> omega) | apply_assumption | (apply atF_r; assumption) | fail "no range") (by first | exact b01_r | exact bz_r | omega | (constructor <;> omega) | apply_assumption | (apply atF_r; assumption) | fail "no range") (fun c_12 => ?_) (fun c_12 => ?_)
    · refine r_iload_n (pc := 40) dX9_entriesOf_40 rfl ?_
      refine r_ireturn (pc := 41) .int dX9_entriesOf_41 rfl (by first | rfl | assumption) ?_
      obtain rfl : t = Z := by omega
      exact ⟨rfl, rfl⟩
    · exfalso; omega
  | succ k ih =>
    intro t ht
    refine r_iload_n (pc := 4) dX9_entriesOf_4 rfl ?_
    refine r_aload_n (pc := 5) dX9_entriesOf_5 rfl (by first | rfl | exact isRefV_rf _) ?_
    refine r_getf (pc := 6) dX9_entriesOf_6 fX9_41 (by first | assumption | exact isI.gx (by assumption) | exact isI.gc (by assumption) | exact isW.gx (by assumption) | exact isW.gF (by assumption) | exact isW.gT (by assumption) (by omega) | exact isW.gS (by assumption) (by omega) | exact isW.gK (by assumption) (by omega) | exact isW.g1 (by assumption) | exact isW.g2 (by assumption) | exact isW.g3 (by assumption) | exact isI.gx (isW.i0 (by assumption)) | exact isI.gc (isW.i0 (by assumption)) | exact isI.gx (isW.i1 (by assumption)) | exact isI.gc (isW.i1 (by assumption)) | exact isI.gx (isW.i2 (by assumption)) | exact isI.gc (isW.i2 (by assumption)) | exact isI.gx (isW.i3 (by assumption)) | exact isI.gc (isW.i3 (by assumption)) | exact isI.gx (isW.i4 (by assumption)) | exact isI.gc (isW.i4 (by assumption)) | exact isI.gx (isW.i5 (by assumption)) | exact isI.gc (isW.i5 (by assumption)) | exact isR.gx (by assumption) | exact isRd.gx (by assumption) | exact isSp.gx (by assumption) | exact isI.gx (isR.i (by assumption)) | exact isI.gx (isRd.i (by assumption)) | exact isI.gc (isRd.i (by assumption)) | exact isI.gx (isSp.i (by assumption)) | exact isW.gx (isR.w (by assumption)) | exact isW.gF (isR.w (by assumption)) | fail "no such object") (by rfl) ?_
    refine r_getf (pc := 9) dX9_entriesOf_9 fX9_144 (by first | assumption | exact isI.gx (by assumption) | exact isI.gc (by assumption) | exact isW.gx (by assumption) | exact isW.gF (by assumption) | exact isW.gT (by assumption) (by omega) | exact isW.gS (by assumption) (by omega) | exact isW.gK (by assumption) (by omega) | exact isW.g1 (by assumption) | exact isW.g2 (by assumption) | exact isW.g3 (by assumption) | exact isI.gx (isW.i0 (by assumption)) | exact isI.gc (isW.i0 (by assumption)) | exact isI.gx (isW.i1 (by assumption)) | exact isI.gc (isW.i1 (by assumption)) | exact isI.gx (isW.i2 (by assumption)) | exact isI.gc (isW.i2 (by assumption)) | exact isI.gx (isW.i3 (by assumption)) | exact isI.gc (isW.i3 (by assumption)) | exact isI.gx (isW.i4 (by assumption)) | exact isI.gc (isW.i4 (by assumption)) | exact isI.gx (isW.i5 (by assumption)) | exact isI.gc (isW.i5 (by assumption)) | exact isR.gx (by assumption) | exact isRd.gx (by assumption) | exact isSp.gx (by assumption) | exact isI.gx (isR.i (by assumption)) | exact isI.gx (isRd.i (by assumption)) | exact isI.gc (isRd.i (by assumption)) | exact isI.gx (isSp.i (by assumption)) | exact isW.gx (isR.w (by assumption)) | exact isW.gF (isR.w (by assumption)) | fail "no such object") (by rfl) ?_
    refine rj_icmp_ge (pc := 12) (tgt := 40) dX9_entriesOf_12 (by decide) (by first | exact b01_r | exact bz_r | omega | (constructor <;> omega) | apply_assumption | (apply atF_r; assumption) | fail "no range") (by first | exact b01_r | exact bz_r | omega | (constructor <;> omega) | apply_assumption | (apply atF_r; assumption) | fail "no range") (fun c_12 => ?_) (fun c_12 => ?_)
    · refine r_iload_n (pc := 40) dX9_entriesOf_40 rfl ?_
      refine r_ireturn (pc := 41) .int dX9_entriesOf_41 rfl (by first | rfl | assumption) ?_
      exfalso; omega
    · refine r_aload_n (pc := 15) dX9_entriesOf_15 rfl (by first | rfl | exact isRefV_rf _) ?_
      refine r_aload_n (pc := 16) dX9_entriesOf_16 rfl (by first | rfl | exact isRefV_rf _) ?_
      refine r_getf (pc := 17) dX9_entriesOf_17 fX9_41 (by first | assumption | exact isI.gx (by assumption) | exact isI.gc (by assumption) | exact isW.gx (by assumption) | exact isW.gF (by assumption) | exact isW.gT (by assumption) (by omega) | exact isW.gS (by assumption) (by omega) | exact isW.gK (by assumption) (by omega) | exact isW.g1 (by assumption) | exact isW.g2 (by assumption) | exact isW.g3 (by assumption) | exact isI.gx (isW.i0 (by assumption)) | exact isI.gc (isW.i0 (by assumption)) | exact isI.gx (isW.i1 (by assumption)) | exact isI.gc (isW.i1 (by assumption)) | exact isI.gx (isW.i2 (by assumption)) | exact isI.gc (isW.i2 (by assumption)) | exact isI.gx (isW.i3 (by assumption)) | exact isI.gc (isW.i3 (by assumption)) | exact isI.gx (isW.i4 (by assumption)) | exact isI.gc (isW.i4 (by assumption)) | exact isI.gx (isW.i5 (by assumption)) | exact isI.gc (isW.i5 (by assumption)) | exact isR.gx (by assumption) | exact isRd.gx (by assumption) | exact isSp.gx (by assumption) | exact isI.gx (isR.i (by assumption)) | exact isI.gx (isRd.i (by assumption)) | exact isI.gc (isRd.i (by assumption)) | exact isI.gx (isSp.i (by assumption)) | exact isW.gx (isR.w (by assumption)) | exact isW.gF (isR.w (by assumption)) | fail "no such object") (by rfl) ?_
      refine r_iload_n (pc := 20) dX9_entriesOf_20 rfl ?_
      refine r_callV1 (pc := 21) dX9_entriesOf_21 qX1_at kX9_147 vX1_at (by first | assumption | exact isI.gx (by assumption) | exact isI.gc (by assumption) | exact isW.gx (by assumption) | exact isW.gF (by assumption) | exact isW.gT (by assumption) (by omega) | exact isW.gS (by assumption) (by omega) | exact isW.gK (by assumption) (by omega) | exact isW.g1 (by assumption) | exact isW.g2 (by assumption) | exact isW.g3 (by assumption) | exact isI.gx (isW.i0 (by assumption)) | exact isI.gc (isW.i0 (by assumption)) | exact isI.gx (isW.i1 (by assumption)) | exact isI.gc (isW.i1 (by assumption)) | exact isI.gx (isW.i2 (by assumption)) | exact isI.gc (isW.i2 (by assumption)) | exact isI.gx (isW.i3 (by assumption)) | exact isI.gc (isW.i3 (by assumption)) | exact isI.gx (isW.i4 (by assumption)) | exact isI.gc (isW.i4 (by assumption)) | exact isI.gx (isW.i5 (by assumption)) | exact isI.gc (isW.i5 (by assumption)) | exact isR.gx (by assumption) | exact isRd.gx (by assumption) | exact isSp.gx (by assumption) | exact isI.gx (isR.i (by assumption)) | exact isI.gx (isRd.i (by assumption)) | exact isI.gc (isRd.i (by assumption)) | exact isI.gx (isSp.i (by assumption)) | exact isW.gx (isR.w (by assumption)) | exact isW.gF (isR.w (by assumption)) | fail "no such object") rfl rfl (Nat.le_of_ble_eq_true rfl) (cn_ent (d) hW hc hZ hcapZ hC (t := t) (by omega)) (fun v_21 h_21 q_21 => ?_)
      obtain ⟨rfl, rfl⟩ := q_21
      refine r_callV1 (pc := 24) dX9_entriesOf_24 qX9_ownerOf kX9_151 vX9_ownerOf (by first | assumption | exact isI.gx (by assumption) | exact isI.gc (by assumption) | exact isW.gx (by assumption) | exact isW.gF (by assumption) | exact isW.gT (by assumption) (by omega) | exact isW.gS (by assumption) (by omega) | exact isW.gK (by assumption) (by omega) | exact isW.g1 (by assumption) | exact isW.g2 (by assumption) | exact isW.g3 (by assumption) | exact isI.gx (isW.i0 (by assumption)) | exact isI.gc (isW.i0 (by assumption)) | exact isI.gx (isW.i1 (by assumption)) | exact isI.gc (isW.i1 (by assumption)) | exact isI.gx (isW.i2 (by assumption)) | exact isI.gc (isW.i2 (by assumption)) | exact isI.gx (isW.i3 (by assumption)) | exact isI.gc (isW.i3 (by assumption)) | exact isI.gx (isW.i4 (by assumption)) | exact isI.gc (isW.i4 (by assumption)) | exact isI.gx (isW.i5 (by assumption)) | exact isI.gc (isW.i5 (by assumption)) | exact isR.gx (by assumption) | exact isRd.gx (by assumption) | exact isSp.gx (by assumption) | exact isI.gx (isR.i (by assumption)) | exact isI.gx (isRd.i (by assumption)) | exact isI.gc (isRd.i (by assumption)) | exact isI.gx (isSp.i (by assumption)) | exact isW.gx (isR.w (by assumption)) | exact isW.gF (isR.w (by assumption)) | fail "no such object") rfl rfl (Nat.le_of_ble_eq_true rfl) (cw_ownerOf (d) hW hc (i := C 2 t) (hC t)) (fun v_24 h_24 q_24 => ?_)
      obtain ⟨rfl, rfl⟩ := q_24
      have ro := ownF_r hc (C 2 t)
      refine r_iload_n (pc := 27) dX9_entriesOf_27 rfl ?_
      refine rj_icmp_ne (pc := 28) (tgt := 34) dX9_entriesOf_28 (by decide) (by first | exact b01_r | exact bz_r | omega | (constructor <;> omega) | apply_assumption | (apply atF_r; assumption) | fail "no range") (by first | exact b01_r | exact bz_r | omega | (constructor <;> omega) | apply_assumption | (apply atF_r; assumption) | fail "no range") (fun c_28 => ?_) (fun c_28 => ?_)
      · refine rj_iinc (pc := 34) dX9_entriesOf_34 (Nat.le_of_ble_eq_true rfl) rfl ?_
        dsimp only [lsSt, List.set, mLs, mEnt]
        refine r_goto (pc := 37) (tgt := 4) dX9_entriesOf_37 (by decide) ?_
        have z := ih (t + 1) (by omega)
        rw [show ((t + 1 : Nat) : Int) = (t : Int) + 1 by omega] at z
        rw [← cnt_f (p := enB c (C 2) i) (n := t) (decide_eq_false (c_28))] at z
        rw [Int.add_zero] at z
        exact z
      · refine rj_iinc (pc := 31) dX9_entriesOf_31 (Nat.le_of_ble_eq_true rfl) rfl ?_
        dsimp only [lsSt, List.set, mLs, mEnt]
        refine rj_iinc (pc := 34) dX9_entriesOf_34 (Nat.le_of_ble_eq_true rfl) rfl ?_
        dsimp only [lsSt, List.set, mLs, mEnt]
        refine r_goto (pc := 37) (tgt := 4) dX9_entriesOf_37 (by decide) ?_
        have z := ih (t + 1) (by omega)
        rw [show ((t + 1 : Nat) : Int) = (t : Int) + 1 by omega] at z
        rw [← cnt_t (p := enB c (C 2) i) (n := t) (decide_eq_true (c_28))] at z
        exact z
set_option maxHeartbeats 4000000 in
set_option maxRecDepth 100000 in
theorem cq_entriesOf {G : mG} {l : Launch} (d : Nat) {h : mH} {w : Nat} {c : Nat → Int} {C : Nat → Nat → Int} {nm : Nat → Int64} {g : Nat → Option Nat} (hW : isW h w c C nm g) (hc : ∀ q, InR (c q)) {Z : Nat} (hZ : c 10 = (Z : Int)) (hcapZ : Z ≤ 150) (hC : ∀ q, InR (C 2 q)) {i : Int} (hi : InR i) : RUNM G l (d + 2) mX9_entriesOf [.ref w, .int (J i)] h (fun v h' => v = some (.int (J (cnt (enB c (C 2) i) Z))) ∧ h' = h) := by
  refine RUNM.of (by decide +kernel) (Nat.le_of_ble_eq_true rfl) ?_
  refine rj_iconst (pc := 0) dX9_entriesOf_0 ?_
  refine r_istore_n (pc := 1) dX9_entriesOf_1 (Nat.le_of_ble_eq_true rfl) ?_
  dsimp only [lsSt, List.set, mLs, mEnt]
  refine rj_iconst (pc := 2) dX9_entriesOf_2 ?_
  refine r_istore_n (pc := 3) dX9_entriesOf_3 (Nat.le_of_ble_eq_true rfl) ?_
  dsimp only [lsSt, List.set, mLs, mEnt]
  exact L_entriesOf d hW hc hZ hcapZ hC hi Z 0 (by omega)
end mg_87
section mg_88
/-! ===== the class: an entry by its place, the last that stands, an entry's place ===== -/
def eyL (c : Nat → Int) (f : Nat → Int) (i k : Int) : Nat → Nat → Int
  | 0, _ => -1
  | n + 1, t => if enB c f i t = true ∧ cnt (enB c f i) t = k then f t else eyL c f i k n (t + 1)
set_option maxHeartbeats 4000000 in
set_option maxRecDepth 100000 in
theorem L_entryAt {G : mG} {l : Launch} (d : Nat) {h : mH} {w : Nat} {c : Nat → Int} {C : Nat → Nat → Int} {nm : Nat → Int64} {g : Nat → Option Nat} (hW : isW h w c C nm g) (hc : ∀ q, InR (c q)) {Z : Nat} (hZ : c 10 = (Z : Int)) (hcapZ : Z ≤ 150) (hC : ∀ q, InR (C 2 q)) {i k : Int} (hi : InR i) (hk : InR k) : ∀ n t : Nat, t + n = Z → RUN G l (d + 2) mX9_entryAt 5 [some (.ref w), some (.int (J i)), some (.int (J k)), some (.int (J (cnt (enB c (C 2) i) t))), some (.int (J (t : Int)))] [] h (fun v h' => v = some (.int (J (eyL c (C 2) i k n t))) ∧ h' = h) := by
  intro n
  induction n with
  | zero =>
    intro t ht
    refine r_iload (pc := 5) dX9_entryAt_5 rfl ?_
    refine r_aload_n (pc := 7) dX9_entryAt_7 rfl (by first | rfl | exact isRefV_rf _) ?_
    refine r_getf (pc := 8) dX9_entryAt_8 fX9_41 (by first | assumption | exact isI.gx (by assumption) | exact isI.gc (by assumption) | exact isW.gx (by assumption) | exact isW.gF (by assumption) | exact isW.gT (by assumption) (by omega) | exact isW.gS (by assumption) (by omega) | exact isW.gK (by assumption) (by omega) | exact isW.g1 (by assumption) | exact isW.g2 (by assumption) | exact isW.g3 (by assumption) | exact isI.gx (isW.i0 (by assumption)) | exact isI.gc (isW.i0 (by assumption)) | exact isI.gx (isW.i1 (by assumption)) | exact isI.gc (isW.i1 (by assumption)) | exact isI.gx (isW.i2 (by assumption)) | exact isI.gc (isW.i2 (by assumption)) | exact isI.gx (isW.i3 (by assumption)) | exact isI.gc (isW.i3 (by assumption)) | exact isI.gx (isW.i4 (by assumption)) | exact isI.gc (isW.i4 (by assumption)) | exact isI.gx (isW.i5 (by assumption)) | exact isI.gc (isW.i5 (by assumption)) | exact isR.gx (by assumption) | exact isRd.gx (by assumption) | exact isSp.gx (by assumption) | exact isI.gx (isR.i (by assumption)) | exact isI.gx (isRd.i (by assumption)) | exact isI.gc (isRd.i (by assumption)) | exact isI.gx (isSp.i (by assumption)) | exact isW.gx (isR.w (by assumption)) | exact isW.gF (isR.w (by assumption)) | fail "no such object") (by rfl) ?_
    refine r_getf (pc := 11) dX9_entryAt_11 fX9_144 (by first | assumption | exact isI.gx (by assumption) | exact isI.gc (by assumption) | exact isW.gx (by assumption) | exact isW.gF (by assumption) | exact isW.gT (by assumption) (by omega) | exact isW.gS (by assumption) (by omega) | exact isW.gK (by assumption) (by omega) | exact isW.g1 (by assumption) | exact isW.g2 (by assumption) | exact isW.g3 (by assumption) | exact isI.gx (isW.i0 (by assumption)) | exact isI.gc (isW.i0 (by assumption)) | exact isI.gx (isW.i1 (by assumption)) | exact isI.gc (isW.i1 (by assumption)) | exact isI.gx (isW.i2 (by assumption)) | exact isI.gc (isW.i2 (by assumption)) | exact isI.gx (isW.i3 (by assumption)) | exact isI.gc (isW.i3 (by assumption)) | exact isI.gx (isW.i4 (by assumption)) | exact isI.gc (isW.i4 (by assumption)) | exact isI.gx (isW.i5 (by assumption)) | exact isI.gc (isW.i5 (by assumption)) | exact isR.gx (by assumption) | exact isRd.gx (by assumption) | exact isSp.gx (by assumption) | exact isI.gx (isR.i (by assumption)) | exact isI.gx (isRd.i (by assumption)) | exact isI.gc (isRd.i (by assumption)) | exact isI.gx (isSp.i (by assumption)) | exact isW.gx (isR.w (by assumption)) | exact isW.gF (isR.w (by assumption)) | fail "no such object") (by rfl) ?_
    refine rj_icmp_ge (pc := 14) (tgt := 58) dX9_entryAt_14 (by decide) (by first | exact b01_r | exact bz_r | omega | (constructor <;> omega) | apply_assumption | (apply atF_r; assumption) | fail "no range") (by first | exact b01_r | exact bz_r | omega | (constructor <;> omega) | apply_assumption | (apply atF_r; assumption) | fail "no range") (fun c_14 => ?_) (fun c_14 => ?_)
    · refine rj_iconst (pc := 58) dX9_entryAt_58 ?_
      refine r_ireturn (pc := 59) .int dX9_entryAt_59 rfl (by first | rfl | assumption) ?_
      exact ⟨rfl, rfl⟩
    · exfalso; omega
  | succ n ih =>
    intro t ht
    have rk := cnt_r (enB c (C 2) i) t
    refine r_iload (pc := 5) dX9_entryAt_5 rfl ?_
    refine r_aload_n (pc := 7) dX9_entryAt_7 rfl (by first | rfl | exact isRefV_rf _) ?_
    refine r_getf (pc := 8) dX9_entryAt_8 fX9_41 (by first | assumption | exact isI.gx (by assumption) | exact isI.gc (by assumption) | exact isW.gx (by assumption) | exact isW.gF (by assumption) | exact isW.gT (by assumption) (by omega) | exact isW.gS (by assumption) (by omega) | exact isW.gK (by assumption) (by omega) | exact isW.g1 (by assumption) | exact isW.g2 (by assumption) | exact isW.g3 (by assumption) | exact isI.gx (isW.i0 (by assumption)) | exact isI.gc (isW.i0 (by assumption)) | exact isI.gx (isW.i1 (by assumption)) | exact isI.gc (isW.i1 (by assumption)) | exact isI.gx (isW.i2 (by assumption)) | exact isI.gc (isW.i2 (by assumption)) | exact isI.gx (isW.i3 (by assumption)) | exact isI.gc (isW.i3 (by assumption)) | exact isI.gx (isW.i4 (by assumption)) | exact isI.gc (isW.i4 (by assumption)) | exact isI.gx (isW.i5 (by assumption)) | exact isI.gc (isW.i5 (by assumption)) | exact isR.gx (by assumption) | exact isRd.gx (by assumption) | exact isSp.gx (by assumption) | exact isI.gx (isR.i (by assumption)) | exact isI.gx (isRd.i (by assumption)) | exact isI.gc (isRd.i (by assumption)) | exact isI.gx (isSp.i (by assumption)) | exact isW.gx (isR.w (by assumption)) | exact isW.gF (isR.w (by assumption)) | fail "no such object") (by rfl) ?_
    refine r_getf (pc := 11) dX9_entryAt_11 fX9_144 (by first | assumption | exact isI.gx (by assumption) | exact isI.gc (by assumption) | exact isW.gx (by assumption) | exact isW.gF (by assumption) | exact isW.gT (by assumption) (by omega) | exact isW.gS (by assumption) (by omega) | exact isW.gK (by assumption) (by omega) | exact isW.g1 (by assumption) | exact isW.g2 (by assumption) | exact isW.g3 (by assumption) | exact isI.gx (isW.i0 (by assumption)) | exact isI.gc (isW.i0 (by assumption)) | exact isI.gx (isW.i1 (by assumption)) | exact isI.gc (isW.i1 (by assumption)) | exact isI.gx (isW.i2 (by assumption)) | exact isI.gc (isW.i2 (by assumption)) | exact isI.gx (isW.i3 (by assumption)) | exact isI.gc (isW.i3 (by assumption)) | exact isI.gx (isW.i4 (by assumption)) | exact isI.gc (isW.i4 (by assumption)) | exact isI.gx (isW.i5 (by assumption)) | exact isI.gc (isW.i5 (by assumption)) | exact isR.gx (by assumption) | exact isRd.gx (by assumption) | exact isSp.gx (by assumption) | exact isI.gx (isR.i (by assumption)) | exact isI.gx (isRd.i (by assumption)) | exact isI.gc (isRd.i (by assumption)) | exact isI.gx (isSp.i (by assumption)) | exact isW.gx (isR.w (by assumption)) | exact isW.gF (isR.w (by assumption)) | fail "no such object") (by rfl) ?_
    refine rj_icmp_ge (pc := 14) (tgt := 58) dX9_entryAt_14 (by decide) (by first | exact b01_r | exact bz_r | omega | (constructor <;> omega) | apply_assumption | (apply atF_r; assumption) | fail "no range") (by first | exact b01_r | exact bz_r | omega | (constructor <;> omega) | apply_assumption | (apply atF_r; assumption) | fail "no range") (fun c_14 => ?_) (fun c_14 => ?_)
    · refine rj_iconst (pc := 58) dX9_entryAt_58 ?_
      refine r_ireturn (pc := 59) .int dX9_entryAt_59 rfl (by first | rfl | assumption) ?_
      first | (exfalso; omega) | exact ⟨by rw [eyL, if_pos ⟨decide_eq_true c_31, c_36⟩], rfl⟩
    · refine r_aload_n (pc := 17) dX9_entryAt_17 rfl (by first | rfl | exact isRefV_rf _) ?_
      refine r_aload_n (pc := 18) dX9_entryAt_18 rfl (by first | rfl | exact isRefV_rf _) ?_
      refine r_getf (pc := 19) dX9_entryAt_19 fX9_41 (by first | assumption | exact isI.gx (by assumption) | exact isI.gc (by assumption) | exact isW.gx (by assumption) | exact isW.gF (by assumption) | exact isW.gT (by assumption) (by omega) | exact isW.gS (by assumption) (by omega) | exact isW.gK (by assumption) (by omega) | exact isW.g1 (by assumption) | exact isW.g2 (by assumption) | exact isW.g3 (by assumption) | exact isI.gx (isW.i0 (by assumption)) | exact isI.gc (isW.i0 (by assumption)) | exact isI.gx (isW.i1 (by assumption)) | exact isI.gc (isW.i1 (by assumption)) | exact isI.gx (isW.i2 (by assumption)) | exact isI.gc (isW.i2 (by assumption)) | exact isI.gx (isW.i3 (by assumption)) | exact isI.gc (isW.i3 (by assumption)) | exact isI.gx (isW.i4 (by assumption)) | exact isI.gc (isW.i4 (by assumption)) | exact isI.gx (isW.i5 (by assumption)) | exact isI.gc (isW.i5 (by assumption)) | exact isR.gx (by assumption) | exact isRd.gx (by assumption) | exact isSp.gx (by assumption) | exact isI.gx (isR.i (by assumption)) | exact isI.gx (isRd.i (by assumption)) | exact isI.gc (isRd.i (by assumption)) | exact isI.gx (isSp.i (by assumption)) | exact isW.gx (isR.w (by assumption)) | exact isW.gF (isR.w (by assumption)) | fail "no such object") (by rfl) ?_
      refine r_iload (pc := 22) dX9_entryAt_22 rfl ?_
      refine r_callV1 (pc := 24) dX9_entryAt_24 qX1_at kX9_147 vX1_at (by first | assumption | exact isI.gx (by assumption) | exact isI.gc (by assumption) | exact isW.gx (by assumption) | exact isW.gF (by assumption) | exact isW.gT (by assumption) (by omega) | exact isW.gS (by assumption) (by omega) | exact isW.gK (by assumption) (by omega) | exact isW.g1 (by assumption) | exact isW.g2 (by assumption) | exact isW.g3 (by assumption) | exact isI.gx (isW.i0 (by assumption)) | exact isI.gc (isW.i0 (by assumption)) | exact isI.gx (isW.i1 (by assumption)) | exact isI.gc (isW.i1 (by assumption)) | exact isI.gx (isW.i2 (by assumption)) | exact isI.gc (isW.i2 (by assumption)) | exact isI.gx (isW.i3 (by assumption)) | exact isI.gc (isW.i3 (by assumption)) | exact isI.gx (isW.i4 (by assumption)) | exact isI.gc (isW.i4 (by assumption)) | exact isI.gx (isW.i5 (by assumption)) | exact isI.gc (isW.i5 (by assumption)) | exact isR.gx (by assumption) | exact isRd.gx (by assumption) | exact isSp.gx (by assumption) | exact isI.gx (isR.i (by assumption)) | exact isI.gx (isRd.i (by assumption)) | exact isI.gc (isRd.i (by assumption)) | exact isI.gx (isSp.i (by assumption)) | exact isW.gx (isR.w (by assumption)) | exact isW.gF (isR.w (by assumption)) | fail "no such object") rfl rfl (Nat.le_of_ble_eq_true rfl) (cn_ent (d) hW hc hZ hcapZ hC (t := t) (by omega)) (fun v_24 h_24 q_24 => ?_)
      obtain ⟨rfl, rfl⟩ := q_24
      refine r_callV1 (pc := 27) dX9_entryAt_27 qX9_ownerOf kX9_151 vX9_ownerOf (by first | assumption | exact isI.gx (by assumption) | exact isI.gc (by assumption) | exact isW.gx (by assumption) | exact isW.gF (by assumption) | exact isW.gT (by assumption) (by omega) | exact isW.gS (by assumption) (by omega) | exact isW.gK (by assumption) (by omega) | exact isW.g1 (by assumption) | exact isW.g2 (by assumption) | exact isW.g3 (by assumption) | exact isI.gx (isW.i0 (by assumption)) | exact isI.gc (isW.i0 (by assumption)) | exact isI.gx (isW.i1 (by assumption)) | exact isI.gc (isW.i1 (by assumption)) | exact isI.gx (isW.i2 (by assumption)) | exact isI.gc (isW.i2 (by assumption)) | exact isI.gx (isW.i3 (by assumption)) | exact isI.gc (isW.i3 (by assumption)) | exact isI.gx (isW.i4 (by assumption)) | exact isI.gc (isW.i4 (by assumption)) | exact isI.gx (isW.i5 (by assumption)) | exact isI.gc (isW.i5 (by assumption)) | exact isR.gx (by assumption) | exact isRd.gx (by assumption) | exact isSp.gx (by assumption) | exact isI.gx (isR.i (by assumption)) | exact isI.gx (isRd.i (by assumption)) | exact isI.gc (isRd.i (by assumption)) | exact isI.gx (isSp.i (by assumption)) | exact isW.gx (isR.w (by assumption)) | exact isW.gF (isR.w (by assumption)) | fail "no such object") rfl rfl (Nat.le_of_ble_eq_true rfl) (cw_ownerOf (d) hW hc (i := C 2 t) (hC t)) (fun v_27 h_27 q_27 => ?_)
      obtain ⟨rfl, rfl⟩ := q_27
      have ro := ownF_r hc (C 2 t)
      refine r_iload_n (pc := 30) dX9_entryAt_30 rfl ?_
      refine rj_icmp_ne (pc := 31) (tgt := 52) dX9_entryAt_31 (by decide) (by first | exact b01_r | exact bz_r | omega | (constructor <;> omega) | apply_assumption | (apply atF_r; assumption) | fail "no range") (by first | exact b01_r | exact bz_r | omega | (constructor <;> omega) | apply_assumption | (apply atF_r; assumption) | fail "no range") (fun c_31 => ?_) (fun c_31 => ?_)
      · refine rj_iinc (pc := 52) dX9_entryAt_52 (Nat.le_of_ble_eq_true rfl) rfl ?_
        dsimp only [lsSt, List.set, mLs, mEnt]
        refine r_goto (pc := 55) (tgt := 5) dX9_entryAt_55 (by decide) ?_
        have e1 : ((t + 1 : Nat) : Int) = (t : Int) + 1 := by omega
        have e2 := cnt_f (p := enB c (C 2) i) (n := t) (decide_eq_false c_31)
        rw [Int.add_zero] at e2
        rw [eyL, if_neg (fun g => c_31 (of_decide_eq_true g.1))]
        have z := ih (t + 1) (by omega)
        rw [e1, ← e2] at z
        exact z
      · refine r_iload_n (pc := 34) dX9_entryAt_34 rfl ?_
        refine r_iload_n (pc := 35) dX9_entryAt_35 rfl ?_
        refine rj_icmp_ne (pc := 36) (tgt := 49) dX9_entryAt_36 (by decide) (by first | exact b01_r | exact bz_r | omega | (constructor <;> omega) | apply_assumption | (apply atF_r; assumption) | fail "no range") (by first | exact b01_r | exact bz_r | omega | (constructor <;> omega) | apply_assumption | (apply atF_r; assumption) | fail "no range") (fun c_36 => ?_) (fun c_36 => ?_)
        · refine rj_iinc (pc := 49) dX9_entryAt_49 (Nat.le_of_ble_eq_true rfl) rfl ?_
          dsimp only [lsSt, List.set, mLs, mEnt]
          refine rj_iinc (pc := 52) dX9_entryAt_52 (Nat.le_of_ble_eq_true rfl) rfl ?_
          dsimp only [lsSt, List.set, mLs, mEnt]
          refine r_goto (pc := 55) (tgt := 5) dX9_entryAt_55 (by decide) ?_
          have e1 : ((t + 1 : Nat) : Int) = (t : Int) + 1 := by omega
          have e2 := cnt_t (p := enB c (C 2) i) (n := t) (decide_eq_true c_31)
          rw [eyL, if_neg (fun g => c_36 g.2)]
          have z := ih (t + 1) (by omega)
          rw [e1, ← e2] at z
          exact z
        · refine r_aload_n (pc := 39) dX9_entryAt_39 rfl (by first | rfl | exact isRefV_rf _) ?_
          refine r_getf (pc := 40) dX9_entryAt_40 fX9_41 (by first | assumption | exact isI.gx (by assumption) | exact isI.gc (by assumption) | exact isW.gx (by assumption) | exact isW.gF (by assumption) | exact isW.gT (by assumption) (by omega) | exact isW.gS (by assumption) (by omega) | exact isW.gK (by assumption) (by omega) | exact isW.g1 (by assumption) | exact isW.g2 (by assumption) | exact isW.g3 (by assumption) | exact isI.gx (isW.i0 (by assumption)) | exact isI.gc (isW.i0 (by assumption)) | exact isI.gx (isW.i1 (by assumption)) | exact isI.gc (isW.i1 (by assumption)) | exact isI.gx (isW.i2 (by assumption)) | exact isI.gc (isW.i2 (by assumption)) | exact isI.gx (isW.i3 (by assumption)) | exact isI.gc (isW.i3 (by assumption)) | exact isI.gx (isW.i4 (by assumption)) | exact isI.gc (isW.i4 (by assumption)) | exact isI.gx (isW.i5 (by assumption)) | exact isI.gc (isW.i5 (by assumption)) | exact isR.gx (by assumption) | exact isRd.gx (by assumption) | exact isSp.gx (by assumption) | exact isI.gx (isR.i (by assumption)) | exact isI.gx (isRd.i (by assumption)) | exact isI.gc (isRd.i (by assumption)) | exact isI.gx (isSp.i (by assumption)) | exact isW.gx (isR.w (by assumption)) | exact isW.gF (isR.w (by assumption)) | fail "no such object") (by rfl) ?_
          refine r_iload (pc := 43) dX9_entryAt_43 rfl ?_
          refine r_callV1 (pc := 45) dX9_entryAt_45 qX1_at kX9_147 vX1_at (by first | assumption | exact isI.gx (by assumption) | exact isI.gc (by assumption) | exact isW.gx (by assumption) | exact isW.gF (by assumption) | exact isW.gT (by assumption) (by omega) | exact isW.gS (by assumption) (by omega) | exact isW.gK (by assumption) (by omega) | exact isW.g1 (by assumption) | exact isW.g2 (by assumption) | exact isW.g3 (by assumption) | exact isI.gx (isW.i0 (by assumption)) | exact isI.gc (isW.i0 (by assumption)) | exact isI.gx (isW.i1 (by assumption)) | exact isI.gc (isW.i1 (by assumption)) | exact isI.gx (isW.i2 (by assumption)) | exact isI.gc (isW.i2 (by assumption)) | exact isI.gx (isW.i3 (by assumption)) | exact isI.gc (isW.i3 (by assumption)) | exact isI.gx (isW.i4 (by assumption)) | exact isI.gc (isW.i4 (by assumption)) | exact isI.gx (isW.i5 (by assumption)) | exact isI.gc (isW.i5 (by assumption)) | exact isR.gx (by assumption) | exact isRd.gx (by assumption) | exact isSp.gx (by assumption) | exact isI.gx (isR.i (by assumption)) | exact isI.gx (isRd.i (by assumption)) | exact isI.gc (isRd.i (by assumption)) | exact isI.gx (isSp.i (by assumption)) | exact isW.gx (isR.w (by assumption)) | exact isW.gF (isR.w (by assumption)) | fail "no such object") rfl rfl (Nat.le_of_ble_eq_true rfl) (cn_ent (d) hW hc hZ hcapZ hC (t := t) (by omega)) (fun v_45 h_45 q_45 => ?_)
          obtain ⟨rfl, rfl⟩ := q_45
          refine r_ireturn (pc := 48) .int dX9_entryAt_48 rfl (by first | rfl | assumption) ?_
          first | (exfalso; omega) | exact ⟨by rw [eyL, if_pos ⟨decide_eq_true c_31, c_36⟩], rfl⟩
set_option maxHeartbeats 4000000 in
set_option maxRecDepth 100000 in
theorem cq_entryAt {G : mG} {l : Launch} (d : Nat) {h : mH} {w : Nat} {c : Nat → Int} {C : Nat → Nat → Int} {nm : Nat → Int64} {g : Nat → Option Nat} (hW : isW h w c C nm g) (hc : ∀ q, InR (c q)) {Z : Nat} (hZ : c 10 = (Z : Int)) (hcapZ : Z ≤ 150) (hC : ∀ q, InR (C 2 q)) {i k : Int} (hi : InR i) (hk : InR k) : RUNM G l (d + 2) mX9_entryAt [.ref w, .int (J i), .int (J k)] h (fun v h' => v = some (.int (J (eyL c (C 2) i k Z 0))) ∧ h' = h) := by
  refine RUNM.of (by decide +kernel) (Nat.le_of_ble_eq_true rfl) ?_
  refine rj_iconst (pc := 0) dX9_entryAt_0 ?_
  refine r_istore_n (pc := 1) dX9_entryAt_1 (Nat.le_of_ble_eq_true rfl) ?_
  dsimp only [lsSt, List.set, mLs, mEnt]
  refine rj_iconst (pc := 2) dX9_entryAt_2 ?_
  refine r_istore (pc := 3) dX9_entryAt_3 (Nat.le_of_ble_eq_true rfl) ?_
  dsimp only [lsSt, List.set, mLs, mEnt]
  exact L_entryAt d hW hc hZ hcapZ hC hi hk Z 0 (by omega)
def peL (f : Nat → Int) (i : Int) : Nat → Nat → Int
  | 0, _ => -1
  | n + 1, t => if f t = i then (t : Int) else peL f i n (t + 1)
set_option maxHeartbeats 4000000 in
set_option maxRecDepth 100000 in
theorem L_placeOfEntry {G : mG} {l : Launch} (d : Nat) {h : mH} {w : Nat} {c : Nat → Int} {C : Nat → Nat → Int} {nm : Nat → Int64} {g : Nat → Option Nat} (hW : isW h w c C nm g) (hc : ∀ q, InR (c q)) {Z : Nat} (hZ : c 10 = (Z : Int)) (hcapZ : Z ≤ 150) (hC : ∀ q, InR (C 2 q)) {i : Int} (hi : InR i) : ∀ n t : Nat, t + n = Z → RUN G l (d + 2) mX9_placeOfEntry 2 [some (.ref w), some (.int (J i)), some (.int (J (t : Int)))] [] h (fun v h' => v = some (.int (J (peL (C 2) i n t))) ∧ h' = h) := by
  intro n
  induction n with
  | zero =>
    intro t ht
    refine r_iload_n (pc := 2) dX9_placeOfEntry_2 rfl ?_
    refine r_aload_n (pc := 3) dX9_placeOfEntry_3 rfl (by first | rfl | exact isRefV_rf _) ?_
    refine r_getf (pc := 4) dX9_placeOfEntry_4 fX9_41 (by first | assumption | exact isI.gx (by assumption) | exact isI.gc (by assumption) | exact isW.gx (by assumption) | exact isW.gF (by assumption) | exact isW.gT (by assumption) (by omega) | exact isW.gS (by assumption) (by omega) | exact isW.gK (by assumption) (by omega) | exact isW.g1 (by assumption) | exact isW.g2 (by assumption) | exact isW.g3 (by assumption) | exact isI.gx (isW.i0 (by assumption)) | exact isI.gc (isW.i0 (by assumption)) | exact isI.gx (isW.i1 (by assumption)) | exact isI.gc (isW.i1 (by assumption)) | exact isI.gx (isW.i2 (by assumption)) | exact isI.gc (isW.i2 (by assumption)) | exact isI.gx (isW.i3 (by assumption)) | exact isI.gc (isW.i3 (by assumption)) | exact isI.gx (isW.i4 (by assumption)) | exact isI.gc (isW.i4 (by assumption)) | exact isI.gx (isW.i5 (by assumption)) | exact isI.gc (isW.i5 (by assumption)) | exact isR.gx (by assumption) | exact isRd.gx (by assumption) | exact isSp.gx (by assumption) | exact isI.gx (isR.i (by assumption)) | exact isI.gx (isRd.i (by assumption)) | exact isI.gc (isRd.i (by assumption)) | exact isI.gx (isSp.i (by assumption)) | exact isW.gx (isR.w (by assumption)) | exact isW.gF (isR.w (by assumption)) | fail "no such object") (by rfl) ?_
    refine r_getf (pc := 7) dX9_placeOfEntry_7 fX9_144 (by first | assumption | exact isI.gx (by assumption) | exact isI.gc (by assumption) | exact isW.gx (by assumption) | exact isW.gF (by assumption) | exact isW.gT (by assumption) (by omega) | exact isW.gS (by assumption) (by omega) | exact isW.gK (by assumption) (by omega) | exact isW.g1 (by assumption) | exact isW.g2 (by assumption) | exact isW.g3 (by assumption) | exact isI.gx (isW.i0 (by assumption)) | exact isI.gc (isW.i0 (by assumption)) | exact isI.gx (isW.i1 (by assumption)) | exact isI.gc (isW.i1 (by assumption)) | exact isI.gx (isW.i2 (by assumption)) | exact isI.gc (isW.i2 (by assumption)) | exact isI.gx (isW.i3 (by assumption)) | exact isI.gc (isW.i3 (by assumption)) | exact isI.gx (isW.i4 (by assumption)) | exact isI.gc (isW.i4 (by assumption)) | exact isI.gx (isW.i5 (by assumption)) | exact isI.gc (isW.i5 (by assumption)) | exact isR.gx (by assumption) | exact isRd.gx (by assumption) | exact isSp.gx (by assumption) | exact isI.gx (isR.i (by assumption)) | exact isI.gx (isRd.i (by assumption)) | exact isI.gc (isRd.i (by assumption)) | exact isI.gx (isSp.i (by assumption)) | exact isW.gx (isR.w (by assumption)) | exact isW.gF (isR.w (by assumption)) | fail "no such object") (by rfl) ?_
    refine rj_icmp_ge (pc := 10) (tgt := 33) dX9_placeOfEntry_10 (by decide) (by first | exact b01_r | exact bz_r | omega | (constructor <;> omega) | apply_assumption | (apply atF_r; assumption) | fail "no range") (by first | exact b01_r | exact bz_r | omega | (constructor <;> omega) | apply_assumption | (apply atF_r; assumption) | fail "no range") (fun c_10 => ?_) (fun c_10 => ?_)
    · refine rj_iconst (pc := 33) dX9_placeOfEntry_33 ?_
      refine r_ireturn (pc := 34) .int dX9_placeOfEntry_34 rfl (by first | rfl | assumption) ?_
      exact ⟨rfl, rfl⟩
    · exfalso; omega
  | succ n ih =>
    intro t ht
    refine r_iload_n (pc := 2) dX9_placeOfEntry_2 rfl ?_
    refine r_aload_n (pc := 3) dX9_placeOfEntry_3 rfl (by first | rfl | exact isRefV_rf _) ?_
    refine r_getf (pc := 4) dX9_placeOfEntry_4 fX9_41 (by first | assumption | exact isI.gx (by assumption) | exact isI.gc (by assumption) | exact isW.gx (by assumption) | exact isW.gF (by assumption) | exact isW.gT (by assumption) (by omega) | exact isW.gS (by assumption) (by omega) | exact isW.gK (by assumption) (by omega) | exact isW.g1 (by assumption) | exact isW.g2 (by assumption) | exact isW.g3 (by assumption) | exact isI.gx (isW.i0 (by assumption)) | exact isI.gc (isW.i0 (by assumption)) | exact isI.gx (isW.i1 (by assumption)) | exact isI.gc (isW.i1 (by assumption)) | exact isI.gx (isW.i2 (by assumption)) | exact isI.gc (isW.i2 (by assumption)) | exact isI.gx (isW.i3 (by assumption)) | exact isI.gc (isW.i3 (by assumption)) | exact isI.gx (isW.i4 (by assumption)) | exact isI.gc (isW.i4 (by assumption)) | exact isI.gx (isW.i5 (by assumption)) | exact isI.gc (isW.i5 (by assumption)) | exact isR.gx (by assumption) | exact isRd.gx (by assumption) | exact isSp.gx (by assumption) | exact isI.gx (isR.i (by assumption)) | exact isI.gx (isRd.i (by assumption)) | exact isI.gc (isRd.i (by assumption)) | exact isI.gx (isSp.i (by assumption)) | exact isW.gx (isR.w (by assumption)) | exact isW.gF (isR.w (by assumption)) | fail "no such object") (by rfl) ?_
    refine r_getf (pc := 7) dX9_placeOfEntry_7 fX9_144 (by first | assumption | exact isI.gx (by assumption) | exact isI.gc (by assumption) | exact isW.gx (by assumption) | exact isW.gF (by assumption) | exact isW.gT (by assumption) (by omega) | exact isW.gS (by assumption) (by omega) | exact isW.gK (by assumption) (by omega) | exact isW.g1 (by assumption) | exact isW.g2 (by assumption) | exact isW.g3 (by assumption) | exact isI.gx (isW.i0 (by assumption)) | exact isI.gc (isW.i0 (by assumption)) | exact isI.gx (isW.i1 (by assumption)) | exact isI.gc (isW.i1 (by assumption)) | exact isI.gx (isW.i2 (by assumption)) | exact isI.gc (isW.i2 (by assumption)) | exact isI.gx (isW.i3 (by assumption)) | exact isI.gc (isW.i3 (by assumption)) | exact isI.gx (isW.i4 (by assumption)) | exact isI.gc (isW.i4 (by assumption)) | exact isI.gx (isW.i5 (by assumption)) | exact isI.gc (isW.i5 (by assumption)) | exact isR.gx (by assumption) | exact isRd.gx (by assumption) | exact isSp.gx (by assumption) | exact isI.gx (isR.i (by assumption)) | exact isI.gx (isRd.i (by assumption)) | exact isI.gc (isRd.i (by assumption)) | exact isI.gx (isSp.i (by assumption)) | exact isW.gx (isR.w (by assumption)) | exact isW.gF (isR.w (by assumption)) | fail "no such object") (by rfl) ?_
    refine rj_icmp_ge (pc := 10) (tgt := 33) dX9_placeOfEntry_10 (by decide) (by first | exact b01_r | exact bz_r | omega | (constructor <;> omega) | apply_assumption | (apply atF_r; assumption) | fail "no range") (by first | exact b01_r | exact bz_r | omega | (constructor <;> omega) | apply_assumption | (apply atF_r; assumption) | fail "no range") (fun c_10 => ?_) (fun c_10 => ?_)
    · refine rj_iconst (pc := 33) dX9_placeOfEntry_33 ?_
      refine r_ireturn (pc := 34) .int dX9_placeOfEntry_34 rfl (by first | rfl | assumption) ?_
      first | (exfalso; omega) | exact ⟨by rw [peL, if_pos (c_22)], rfl⟩
    · refine r_aload_n (pc := 13) dX9_placeOfEntry_13 rfl (by first | rfl | exact isRefV_rf _) ?_
      refine r_getf (pc := 14) dX9_placeOfEntry_14 fX9_41 (by first | assumption | exact isI.gx (by assumption) | exact isI.gc (by assumption) | exact isW.gx (by assumption) | exact isW.gF (by assumption) | exact isW.gT (by assumption) (by omega) | exact isW.gS (by assumption) (by omega) | exact isW.gK (by assumption) (by omega) | exact isW.g1 (by assumption) | exact isW.g2 (by assumption) | exact isW.g3 (by assumption) | exact isI.gx (isW.i0 (by assumption)) | exact isI.gc (isW.i0 (by assumption)) | exact isI.gx (isW.i1 (by assumption)) | exact isI.gc (isW.i1 (by assumption)) | exact isI.gx (isW.i2 (by assumption)) | exact isI.gc (isW.i2 (by assumption)) | exact isI.gx (isW.i3 (by assumption)) | exact isI.gc (isW.i3 (by assumption)) | exact isI.gx (isW.i4 (by assumption)) | exact isI.gc (isW.i4 (by assumption)) | exact isI.gx (isW.i5 (by assumption)) | exact isI.gc (isW.i5 (by assumption)) | exact isR.gx (by assumption) | exact isRd.gx (by assumption) | exact isSp.gx (by assumption) | exact isI.gx (isR.i (by assumption)) | exact isI.gx (isRd.i (by assumption)) | exact isI.gc (isRd.i (by assumption)) | exact isI.gx (isSp.i (by assumption)) | exact isW.gx (isR.w (by assumption)) | exact isW.gF (isR.w (by assumption)) | fail "no such object") (by rfl) ?_
      refine r_iload_n (pc := 17) dX9_placeOfEntry_17 rfl ?_
      refine r_callV1 (pc := 18) dX9_placeOfEntry_18 qX1_at kX9_147 vX1_at (by first | assumption | exact isI.gx (by assumption) | exact isI.gc (by assumption) | exact isW.gx (by assumption) | exact isW.gF (by assumption) | exact isW.gT (by assumption) (by omega) | exact isW.gS (by assumption) (by omega) | exact isW.gK (by assumption) (by omega) | exact isW.g1 (by assumption) | exact isW.g2 (by assumption) | exact isW.g3 (by assumption) | exact isI.gx (isW.i0 (by assumption)) | exact isI.gc (isW.i0 (by assumption)) | exact isI.gx (isW.i1 (by assumption)) | exact isI.gc (isW.i1 (by assumption)) | exact isI.gx (isW.i2 (by assumption)) | exact isI.gc (isW.i2 (by assumption)) | exact isI.gx (isW.i3 (by assumption)) | exact isI.gc (isW.i3 (by assumption)) | exact isI.gx (isW.i4 (by assumption)) | exact isI.gc (isW.i4 (by assumption)) | exact isI.gx (isW.i5 (by assumption)) | exact isI.gc (isW.i5 (by assumption)) | exact isR.gx (by assumption) | exact isRd.gx (by assumption) | exact isSp.gx (by assumption) | exact isI.gx (isR.i (by assumption)) | exact isI.gx (isRd.i (by assumption)) | exact isI.gc (isRd.i (by assumption)) | exact isI.gx (isSp.i (by assumption)) | exact isW.gx (isR.w (by assumption)) | exact isW.gF (isR.w (by assumption)) | fail "no such object") rfl rfl (Nat.le_of_ble_eq_true rfl) (cn_ent (d) hW hc hZ hcapZ hC (t := t) (by omega)) (fun v_18 h_18 q_18 => ?_)
      obtain ⟨rfl, rfl⟩ := q_18
      have ro := hC t
      refine r_iload_n (pc := 21) dX9_placeOfEntry_21 rfl ?_
      refine rj_icmp_ne (pc := 22) (tgt := 27) dX9_placeOfEntry_22 (by decide) (by first | exact b01_r | exact bz_r | omega | (constructor <;> omega) | apply_assumption | (apply atF_r; assumption) | fail "no range") (by first | exact b01_r | exact bz_r | omega | (constructor <;> omega) | apply_assumption | (apply atF_r; assumption) | fail "no range") (fun c_22 => ?_) (fun c_22 => ?_)
      · refine rj_iinc (pc := 27) dX9_placeOfEntry_27 (Nat.le_of_ble_eq_true rfl) rfl ?_
        dsimp only [lsSt, List.set, mLs, mEnt]
        refine r_goto (pc := 30) (tgt := 2) dX9_placeOfEntry_30 (by decide) ?_
        have z := ih (t + 1) (by omega)
        rw [show ((t + 1 : Nat) : Int) = (t : Int) + 1 by omega] at z
        rw [peL, if_neg (c_22)]
        exact z
      · refine r_iload_n (pc := 25) dX9_placeOfEntry_25 rfl ?_
        refine r_ireturn (pc := 26) .int dX9_placeOfEntry_26 rfl (by first | rfl | assumption) ?_
        first | (exfalso; omega) | exact ⟨by rw [peL, if_pos (c_22)], rfl⟩
set_option maxHeartbeats 4000000 in
set_option maxRecDepth 100000 in
theorem cq_placeOfEntry {G : mG} {l : Launch} (d : Nat) {h : mH} {w : Nat} {c : Nat → Int} {C : Nat → Nat → Int} {nm : Nat → Int64} {g : Nat → Option Nat} (hW : isW h w c C nm g) (hc : ∀ q, InR (c q)) {Z : Nat} (hZ : c 10 = (Z : Int)) (hcapZ : Z ≤ 150) (hC : ∀ q, InR (C 2 q)) {i : Int} (hi : InR i) : RUNM G l (d + 2) mX9_placeOfEntry [.ref w, .int (J i)] h (fun v h' => v = some (.int (J (peL (C 2) i Z 0))) ∧ h' = h) := by
  refine RUNM.of (by decide +kernel) (Nat.le_of_ble_eq_true rfl) ?_
  refine rj_iconst (pc := 0) dX9_placeOfEntry_0 ?_
  refine r_istore_n (pc := 1) dX9_placeOfEntry_1 (Nat.le_of_ble_eq_true rfl) ?_
  dsimp only [lsSt, List.set, mLs, mEnt]
  exact L_placeOfEntry d hW hc hZ hcapZ hC hi Z 0 (by omega)
abbrev stP (c : Nat → Int) (e : Int) : Prop := (100 ≤ e ∧ inW c 1 60 (e - 100) ∧ c (304 + 3 * (e - 100).toNat) = 0) ∨ (e < 100 ∧ inW c 0 90 e ∧ c (32 + 3 * e.toNat) = 0)

def ltL (c : Nat → Int) (f : Nat → Int) (i : Int) : Nat → Int
  | 0 => -1
  | t + 1 => if stP c (f t) ∧ ownF c (f t) = i then f t else ltL c f i t
set_option maxHeartbeats 4000000 in
set_option maxRecDepth 100000 in
theorem L_lastToEnd {G : mG} {l : Launch} (d : Nat) {h : mH} {w : Nat} {c : Nat → Int} {C : Nat → Nat → Int} {nm : Nat → Int64} {g : Nat → Option Nat} (hW : isW h w c C nm g) (hc : ∀ q, InR (c q)) {Z : Nat} (hZ : c 10 = (Z : Int)) (hcapZ : Z ≤ 150) (hC : ∀ q, InR (C 2 q)) {i : Int} (hi : InR i) : ∀ (t : Nat) (o0 o1 : Option Value), t ≤ Z → RUN G l (d + 2) mX9_lastToEnd 10 [some (.ref w), some (.int (J i)), some (.int (J ((t : Int) - 1))), o0, o1] [] h (fun v h' => v = some (.int (J (ltL c (C 2) i t))) ∧ h' = h) := by
  intro t
  induction t with
  | zero =>
    intro o0 o1 ht
    refine r_iload_n (pc := 10) dX9_lastToEnd_10 rfl ?_
    refine rj_if_lt (pc := 11) (tgt := 69) dX9_lastToEnd_11 (by decide) (by first | exact b01_r | exact bz_r | omega | (constructor <;> omega) | apply_assumption | (apply atF_r; assumption) | fail "no range") (fun c_11 => ?_) (fun c_11 => ?_)
    · refine rj_iconst (pc := 69) dX9_lastToEnd_69 ?_
      refine r_ireturn (pc := 70) .int dX9_lastToEnd_70 rfl (by first | rfl | assumption) ?_
      exact ⟨rfl, rfl⟩
    · exfalso; omega
  | succ t ih =>
    intro o0 o1 ht
    have e1 : ((t + 1 : Nat) : Int) - 1 = (t : Int) := by omega
    rw [e1]
    have rc := hC t
    refine r_iload_n (pc := 10) dX9_lastToEnd_10 rfl ?_
    refine rj_if_lt (pc := 11) (tgt := 69) dX9_lastToEnd_11 (by decide) (by first | exact b01_r | exact bz_r | omega | (constructor <;> omega) | apply_assumption | (apply atF_r; assumption) | fail "no range") (fun c_11 => ?_) (fun c_11 => ?_)
    · refine rj_iconst (pc := 69) dX9_lastToEnd_69 ?_
      refine r_ireturn (pc := 70) .int dX9_lastToEnd_70 rfl (by first | rfl | assumption) ?_
      first | (exfalso; omega) | exact ⟨by rw [ltL, if_pos ⟨Or.inl ⟨by omega, c_49⟩, c_58⟩], rfl⟩ | exact ⟨by rw [ltL, if_pos ⟨Or.inr ⟨by omega, c_49⟩, c_58⟩], rfl⟩
    · refine r_aload_n (pc := 14) dX9_lastToEnd_14 rfl (by first | rfl | exact isRefV_rf _) ?_
      refine r_getf (pc := 15) dX9_lastToEnd_15 fX9_41 (by first | assumption | exact isI.gx (by assumption) | exact isI.gc (by assumption) | exact isW.gx (by assumption) | exact isW.gF (by assumption) | exact isW.gT (by assumption) (by omega) | exact isW.gS (by assumption) (by omega) | exact isW.gK (by assumption) (by omega) | exact isW.g1 (by assumption) | exact isW.g2 (by assumption) | exact isW.g3 (by assumption) | exact isI.gx (isW.i0 (by assumption)) | exact isI.gc (isW.i0 (by assumption)) | exact isI.gx (isW.i1 (by assumption)) | exact isI.gc (isW.i1 (by assumption)) | exact isI.gx (isW.i2 (by assumption)) | exact isI.gc (isW.i2 (by assumption)) | exact isI.gx (isW.i3 (by assumption)) | exact isI.gc (isW.i3 (by assumption)) | exact isI.gx (isW.i4 (by assumption)) | exact isI.gc (isW.i4 (by assumption)) | exact isI.gx (isW.i5 (by assumption)) | exact isI.gc (isW.i5 (by assumption)) | exact isR.gx (by assumption) | exact isRd.gx (by assumption) | exact isSp.gx (by assumption) | exact isI.gx (isR.i (by assumption)) | exact isI.gx (isRd.i (by assumption)) | exact isI.gc (isRd.i (by assumption)) | exact isI.gx (isSp.i (by assumption)) | exact isW.gx (isR.w (by assumption)) | exact isW.gF (isR.w (by assumption)) | fail "no such object") (by rfl) ?_
      refine r_iload_n (pc := 18) dX9_lastToEnd_18 rfl ?_
      refine r_callV1 (pc := 19) dX9_lastToEnd_19 qX1_at kX9_147 vX1_at (by first | assumption | exact isI.gx (by assumption) | exact isI.gc (by assumption) | exact isW.gx (by assumption) | exact isW.gF (by assumption) | exact isW.gT (by assumption) (by omega) | exact isW.gS (by assumption) (by omega) | exact isW.gK (by assumption) (by omega) | exact isW.g1 (by assumption) | exact isW.g2 (by assumption) | exact isW.g3 (by assumption) | exact isI.gx (isW.i0 (by assumption)) | exact isI.gc (isW.i0 (by assumption)) | exact isI.gx (isW.i1 (by assumption)) | exact isI.gc (isW.i1 (by assumption)) | exact isI.gx (isW.i2 (by assumption)) | exact isI.gc (isW.i2 (by assumption)) | exact isI.gx (isW.i3 (by assumption)) | exact isI.gc (isW.i3 (by assumption)) | exact isI.gx (isW.i4 (by assumption)) | exact isI.gc (isW.i4 (by assumption)) | exact isI.gx (isW.i5 (by assumption)) | exact isI.gc (isW.i5 (by assumption)) | exact isR.gx (by assumption) | exact isRd.gx (by assumption) | exact isSp.gx (by assumption) | exact isI.gx (isR.i (by assumption)) | exact isI.gx (isRd.i (by assumption)) | exact isI.gc (isRd.i (by assumption)) | exact isI.gx (isSp.i (by assumption)) | exact isW.gx (isR.w (by assumption)) | exact isW.gF (isR.w (by assumption)) | fail "no such object") rfl rfl (Nat.le_of_ble_eq_true rfl) (cn_ent (d) hW hc hZ hcapZ hC (t := t) (by omega)) (fun v_19 h_19 q_19 => ?_)
      obtain ⟨rfl, rfl⟩ := q_19
      refine r_istore_n (pc := 22) dX9_lastToEnd_22 (Nat.le_of_ble_eq_true rfl) ?_
      dsimp only [lsSt, List.set, mLs, mEnt]
      refine r_iload_n (pc := 23) dX9_lastToEnd_23 rfl ?_
      refine rj_bipush (pc := 24) dX9_lastToEnd_24 (by decide +kernel) ?_
      refine rj_icmp_lt (pc := 26) (tgt := 40) dX9_lastToEnd_26 (by decide) (by first | exact b01_r | exact bz_r | omega | (constructor <;> omega) | apply_assumption | (apply atF_r; assumption) | fail "no range") (by first | exact b01_r | exact bz_r | omega | (constructor <;> omega) | apply_assumption | (apply atF_r; assumption) | fail "no range") (fun c_26 => ?_) (fun c_26 => ?_)
      · refine r_aload_n (pc := 40) dX9_lastToEnd_40 rfl (by first | rfl | exact isRefV_rf _) ?_
        refine r_iload_n (pc := 41) dX9_lastToEnd_41 rfl ?_
        refine r_callV1 (pc := 42) dX9_lastToEnd_42 qX9_isHeld kX9_157 vX9_isHeld (by first | assumption | exact isI.gx (by assumption) | exact isI.gc (by assumption) | exact isW.gx (by assumption) | exact isW.gF (by assumption) | exact isW.gT (by assumption) (by omega) | exact isW.gS (by assumption) (by omega) | exact isW.gK (by assumption) (by omega) | exact isW.g1 (by assumption) | exact isW.g2 (by assumption) | exact isW.g3 (by assumption) | exact isI.gx (isW.i0 (by assumption)) | exact isI.gc (isW.i0 (by assumption)) | exact isI.gx (isW.i1 (by assumption)) | exact isI.gc (isW.i1 (by assumption)) | exact isI.gx (isW.i2 (by assumption)) | exact isI.gc (isW.i2 (by assumption)) | exact isI.gx (isW.i3 (by assumption)) | exact isI.gc (isW.i3 (by assumption)) | exact isI.gx (isW.i4 (by assumption)) | exact isI.gc (isW.i4 (by assumption)) | exact isI.gx (isW.i5 (by assumption)) | exact isI.gc (isW.i5 (by assumption)) | exact isR.gx (by assumption) | exact isRd.gx (by assumption) | exact isSp.gx (by assumption) | exact isI.gx (isR.i (by assumption)) | exact isI.gx (isRd.i (by assumption)) | exact isI.gc (isRd.i (by assumption)) | exact isI.gx (isSp.i (by assumption)) | exact isW.gx (isR.w (by assumption)) | exact isW.gF (isR.w (by assumption)) | fail "no such object") rfl rfl (Nat.le_of_ble_eq_true rfl) (cw_isHeld _ hW hc (i := C 2 t) (hC t)) (fun v_42 h_42 q_42 => ?_)
        obtain ⟨rfl, rfl⟩ := q_42
        refine r_istore (pc := 45) dX9_lastToEnd_45 (Nat.le_of_ble_eq_true rfl) ?_
        dsimp only [lsSt, List.set, mLs, mEnt]
        refine r_iload (pc := 47) dX9_lastToEnd_47 rfl ?_
        refine rj_if_eq (pc := 49) (tgt := 63) dX9_lastToEnd_49 (by decide) (by first | exact b01_r | exact bz_r | omega | (constructor <;> omega) | apply_assumption | (apply atF_r; assumption) | fail "no range") (fun c_49 => ?_) (fun c_49 => ?_)
        · try simp only [b01_0, bz_0, Classical.not_not] at c_49
          refine rj_iinc (pc := 63) dX9_lastToEnd_63 (Nat.le_of_ble_eq_true rfl) rfl ?_
          dsimp only [lsSt, List.set, mLs, mEnt]
          refine r_goto (pc := 66) (tgt := 10) dX9_lastToEnd_66 (by decide) ?_
          rw [ltL, if_neg (fun g => c_49 (g.1.elim (fun z => absurd z.1 (by omega)) (fun z => z.2)))]
          rw [show (t : Int) - 1 = (t : Int) + -1 by omega] at ih
          exact ih _ _ (by omega)
        · try simp only [b01_0, bz_0, Classical.not_not] at c_49
          refine r_aload_n (pc := 52) dX9_lastToEnd_52 rfl (by first | rfl | exact isRefV_rf _) ?_
          refine r_iload_n (pc := 53) dX9_lastToEnd_53 rfl ?_
          refine r_callV1 (pc := 54) dX9_lastToEnd_54 qX9_ownerOf kX9_151 vX9_ownerOf (by first | assumption | exact isI.gx (by assumption) | exact isI.gc (by assumption) | exact isW.gx (by assumption) | exact isW.gF (by assumption) | exact isW.gT (by assumption) (by omega) | exact isW.gS (by assumption) (by omega) | exact isW.gK (by assumption) (by omega) | exact isW.g1 (by assumption) | exact isW.g2 (by assumption) | exact isW.g3 (by assumption) | exact isI.gx (isW.i0 (by assumption)) | exact isI.gc (isW.i0 (by assumption)) | exact isI.gx (isW.i1 (by assumption)) | exact isI.gc (isW.i1 (by assumption)) | exact isI.gx (isW.i2 (by assumption)) | exact isI.gc (isW.i2 (by assumption)) | exact isI.gx (isW.i3 (by assumption)) | exact isI.gc (isW.i3 (by assumption)) | exact isI.gx (isW.i4 (by assumption)) | exact isI.gc (isW.i4 (by assumption)) | exact isI.gx (isW.i5 (by assumption)) | exact isI.gc (isW.i5 (by assumption)) | exact isR.gx (by assumption) | exact isRd.gx (by assumption) | exact isSp.gx (by assumption) | exact isI.gx (isR.i (by assumption)) | exact isI.gx (isRd.i (by assumption)) | exact isI.gc (isRd.i (by assumption)) | exact isI.gx (isSp.i (by assumption)) | exact isW.gx (isR.w (by assumption)) | exact isW.gF (isR.w (by assumption)) | fail "no such object") rfl rfl (Nat.le_of_ble_eq_true rfl) (cw_ownerOf (d) hW hc (i := C 2 t) (hC t)) (fun v_54 h_54 q_54 => ?_)
          obtain ⟨rfl, rfl⟩ := q_54
          have ro := ownF_r hc (C 2 t)
          refine r_iload_n (pc := 57) dX9_lastToEnd_57 rfl ?_
          refine rj_icmp_ne (pc := 58) (tgt := 63) dX9_lastToEnd_58 (by decide) (by first | exact b01_r | exact bz_r | omega | (constructor <;> omega) | apply_assumption | (apply atF_r; assumption) | fail "no range") (by first | exact b01_r | exact bz_r | omega | (constructor <;> omega) | apply_assumption | (apply atF_r; assumption) | fail "no range") (fun c_58 => ?_) (fun c_58 => ?_)
          · refine rj_iinc (pc := 63) dX9_lastToEnd_63 (Nat.le_of_ble_eq_true rfl) rfl ?_
            dsimp only [lsSt, List.set, mLs, mEnt]
            refine r_goto (pc := 66) (tgt := 10) dX9_lastToEnd_66 (by decide) ?_
            rw [ltL, if_neg (fun g => c_58 g.2)]
            rw [show (t : Int) - 1 = (t : Int) + -1 by omega] at ih
            exact ih _ _ (by omega)
          · refine r_iload_n (pc := 61) dX9_lastToEnd_61 rfl ?_
            refine r_ireturn (pc := 62) .int dX9_lastToEnd_62 rfl (by first | rfl | assumption) ?_
            first | (exfalso; omega) | exact ⟨by rw [ltL, if_pos ⟨Or.inl ⟨by omega, c_49⟩, c_58⟩], rfl⟩ | exact ⟨by rw [ltL, if_pos ⟨Or.inr ⟨by omega, c_49⟩, c_58⟩], rfl⟩
      · refine r_aload_n (pc := 29) dX9_lastToEnd_29 rfl (by first | rfl | exact isRefV_rf _) ?_
        refine r_iload_n (pc := 30) dX9_lastToEnd_30 rfl ?_
        refine rj_bipush (pc := 31) dX9_lastToEnd_31 (by decide +kernel) ?_
        refine rj_isub (pc := 33) dX9_lastToEnd_33 ?_
        refine r_callV1 (pc := 34) dX9_lastToEnd_34 qX9_isOpen kX9_154 vX9_isOpen (by first | assumption | exact isI.gx (by assumption) | exact isI.gc (by assumption) | exact isW.gx (by assumption) | exact isW.gF (by assumption) | exact isW.gT (by assumption) (by omega) | exact isW.gS (by assumption) (by omega) | exact isW.gK (by assumption) (by omega) | exact isW.g1 (by assumption) | exact isW.g2 (by assumption) | exact isW.g3 (by assumption) | exact isI.gx (isW.i0 (by assumption)) | exact isI.gc (isW.i0 (by assumption)) | exact isI.gx (isW.i1 (by assumption)) | exact isI.gc (isW.i1 (by assumption)) | exact isI.gx (isW.i2 (by assumption)) | exact isI.gc (isW.i2 (by assumption)) | exact isI.gx (isW.i3 (by assumption)) | exact isI.gc (isW.i3 (by assumption)) | exact isI.gx (isW.i4 (by assumption)) | exact isI.gc (isW.i4 (by assumption)) | exact isI.gx (isW.i5 (by assumption)) | exact isI.gc (isW.i5 (by assumption)) | exact isR.gx (by assumption) | exact isRd.gx (by assumption) | exact isSp.gx (by assumption) | exact isI.gx (isR.i (by assumption)) | exact isI.gx (isRd.i (by assumption)) | exact isI.gc (isRd.i (by assumption)) | exact isI.gx (isSp.i (by assumption)) | exact isW.gx (isR.w (by assumption)) | exact isW.gF (isR.w (by assumption)) | fail "no such object") rfl rfl (Nat.le_of_ble_eq_true rfl) (cw_isOpen _ hW hc (i := C 2 t - 100) ⟨by omega, by omega⟩) (fun v_34 h_34 q_34 => ?_)
        obtain ⟨rfl, rfl⟩ := q_34
        refine r_goto (pc := 37) (tgt := 45) dX9_lastToEnd_37 (by decide) ?_
        refine r_istore (pc := 45) dX9_lastToEnd_45 (Nat.le_of_ble_eq_true rfl) ?_
        dsimp only [lsSt, List.set, mLs, mEnt]
        refine r_iload (pc := 47) dX9_lastToEnd_47 rfl ?_
        refine rj_if_eq (pc := 49) (tgt := 63) dX9_lastToEnd_49 (by decide) (by first | exact b01_r | exact bz_r | omega | (constructor <;> omega) | apply_assumption | (apply atF_r; assumption) | fail "no range") (fun c_49 => ?_) (fun c_49 => ?_)
        · try simp only [b01_0, bz_0, Classical.not_not] at c_49
          refine rj_iinc (pc := 63) dX9_lastToEnd_63 (Nat.le_of_ble_eq_true rfl) rfl ?_
          dsimp only [lsSt, List.set, mLs, mEnt]
          refine r_goto (pc := 66) (tgt := 10) dX9_lastToEnd_66 (by decide) ?_
          rw [ltL, if_neg (fun g => c_49 (g.1.elim (fun z => z.2) (fun z => absurd z.1 (by omega))))]
          rw [show (t : Int) - 1 = (t : Int) + -1 by omega] at ih
          exact ih _ _ (by omega)
        · try simp only [b01_0, bz_0, Classical.not_not] at c_49
          refine r_aload_n (pc := 52) dX9_lastToEnd_52 rfl (by first | rfl | exact isRefV_rf _) ?_
          refine r_iload_n (pc := 53) dX9_lastToEnd_53 rfl ?_
          refine r_callV1 (pc := 54) dX9_lastToEnd_54 qX9_ownerOf kX9_151 vX9_ownerOf (by first | assumption | exact isI.gx (by assumption) | exact isI.gc (by assumption) | exact isW.gx (by assumption) | exact isW.gF (by assumption) | exact isW.gT (by assumption) (by omega) | exact isW.gS (by assumption) (by omega) | exact isW.gK (by assumption) (by omega) | exact isW.g1 (by assumption) | exact isW.g2 (by assumption) | exact isW.g3 (by assumption) | exact isI.gx (isW.i0 (by assumption)) | exact isI.gc (isW.i0 (by assumption)) | exact isI.gx (isW.i1 (by assumption)) | exact isI.gc (isW.i1 (by assumption)) | exact isI.gx (isW.i2 (by assumption)) | exact isI.gc (isW.i2 (by assumption)) | exact isI.gx (isW.i3 (by assumption)) | exact isI.gc (isW.i3 (by assumption)) | exact isI.gx (isW.i4 (by assumption)) | exact isI.gc (isW.i4 (by assumption)) | exact isI.gx (isW.i5 (by assumption)) | exact isI.gc (isW.i5 (by assumption)) | exact isR.gx (by assumption) | exact isRd.gx (by assumption) | exact isSp.gx (by assumption) | exact isI.gx (isR.i (by assumption)) | exact isI.gx (isRd.i (by assumption)) | exact isI.gc (isRd.i (by assumption)) | exact isI.gx (isSp.i (by assumption)) | exact isW.gx (isR.w (by assumption)) | exact isW.gF (isR.w (by assumption)) | fail "no such object") rfl rfl (Nat.le_of_ble_eq_true rfl) (cw_ownerOf (d) hW hc (i := C 2 t) (hC t)) (fun v_54 h_54 q_54 => ?_)
          obtain ⟨rfl, rfl⟩ := q_54
          have ro := ownF_r hc (C 2 t)
          refine r_iload_n (pc := 57) dX9_lastToEnd_57 rfl ?_
          refine rj_icmp_ne (pc := 58) (tgt := 63) dX9_lastToEnd_58 (by decide) (by first | exact b01_r | exact bz_r | omega | (constructor <;> omega) | apply_assumption | (apply atF_r; assumption) | fail "no range") (by first | exact b01_r | exact bz_r | omega | (constructor <;> omega) | apply_assumption | (apply atF_r; assumption) | fail "no range") (fun c_58 => ?_) (fun c_58 => ?_)
          · refine rj_iinc (pc := 63) dX9_lastToEnd_63 (Nat.le_of_ble_eq_true rfl) rfl ?_
            dsimp only [lsSt, List.set, mLs, mEnt]
            refine r_goto (pc := 66) (tgt := 10) dX9_lastToEnd_66 (by decide) ?_
            rw [ltL, if_neg (fun g => c_58 g.2)]
            rw [show (t : Int) - 1 = (t : Int) + -1 by omega] at ih
            exact ih _ _ (by omega)
          · refine r_iload_n (pc := 61) dX9_lastToEnd_61 rfl ?_
            refine r_ireturn (pc := 62) .int dX9_lastToEnd_62 rfl (by first | rfl | assumption) ?_
            first | (exfalso; omega) | exact ⟨by rw [ltL, if_pos ⟨Or.inl ⟨by omega, c_49⟩, c_58⟩], rfl⟩ | exact ⟨by rw [ltL, if_pos ⟨Or.inr ⟨by omega, c_49⟩, c_58⟩], rfl⟩
set_option maxHeartbeats 4000000 in
set_option maxRecDepth 100000 in
theorem cq_lastToEnd {G : mG} {l : Launch} (d : Nat) {h : mH} {w : Nat} {c : Nat → Int} {C : Nat → Nat → Int} {nm : Nat → Int64} {g : Nat → Option Nat} (hW : isW h w c C nm g) (hc : ∀ q, InR (c q)) {Z : Nat} (hZ : c 10 = (Z : Int)) (hcapZ : Z ≤ 150) (hC : ∀ q, InR (C 2 q)) {i : Int} (hi : InR i) : RUNM G l (d + 2) mX9_lastToEnd [.ref w, .int (J i)] h (fun v h' => v = some (.int (J (ltL c (C 2) i Z))) ∧ h' = h) := by
  refine RUNM.of (by decide +kernel) (Nat.le_of_ble_eq_true rfl) ?_
  have r0 := hc 10
  refine r_aload_n (pc := 0) dX9_lastToEnd_0 rfl (by first | rfl | exact isRefV_rf _) ?_
  refine r_getf (pc := 1) dX9_lastToEnd_1 fX9_41 (by first | assumption | exact isI.gx (by assumption) | exact isI.gc (by assumption) | exact isW.gx (by assumption) | exact isW.gF (by assumption) | exact isW.gT (by assumption) (by omega) | exact isW.gS (by assumption) (by omega) | exact isW.gK (by assumption) (by omega) | exact isW.g1 (by assumption) | exact isW.g2 (by assumption) | exact isW.g3 (by assumption) | exact isI.gx (isW.i0 (by assumption)) | exact isI.gc (isW.i0 (by assumption)) | exact isI.gx (isW.i1 (by assumption)) | exact isI.gc (isW.i1 (by assumption)) | exact isI.gx (isW.i2 (by assumption)) | exact isI.gc (isW.i2 (by assumption)) | exact isI.gx (isW.i3 (by assumption)) | exact isI.gc (isW.i3 (by assumption)) | exact isI.gx (isW.i4 (by assumption)) | exact isI.gc (isW.i4 (by assumption)) | exact isI.gx (isW.i5 (by assumption)) | exact isI.gc (isW.i5 (by assumption)) | exact isR.gx (by assumption) | exact isRd.gx (by assumption) | exact isSp.gx (by assumption) | exact isI.gx (isR.i (by assumption)) | exact isI.gx (isRd.i (by assumption)) | exact isI.gc (isRd.i (by assumption)) | exact isI.gx (isSp.i (by assumption)) | exact isW.gx (isR.w (by assumption)) | exact isW.gF (isR.w (by assumption)) | fail "no such object") (by rfl) ?_
  refine r_getf (pc := 4) dX9_lastToEnd_4 fX9_144 (by first | assumption | exact isI.gx (by assumption) | exact isI.gc (by assumption) | exact isW.gx (by assumption) | exact isW.gF (by assumption) | exact isW.gT (by assumption) (by omega) | exact isW.gS (by assumption) (by omega) | exact isW.gK (by assumption) (by omega) | exact isW.g1 (by assumption) | exact isW.g2 (by assumption) | exact isW.g3 (by assumption) | exact isI.gx (isW.i0 (by assumption)) | exact isI.gc (isW.i0 (by assumption)) | exact isI.gx (isW.i1 (by assumption)) | exact isI.gc (isW.i1 (by assumption)) | exact isI.gx (isW.i2 (by assumption)) | exact isI.gc (isW.i2 (by assumption)) | exact isI.gx (isW.i3 (by assumption)) | exact isI.gc (isW.i3 (by assumption)) | exact isI.gx (isW.i4 (by assumption)) | exact isI.gc (isW.i4 (by assumption)) | exact isI.gx (isW.i5 (by assumption)) | exact isI.gc (isW.i5 (by assumption)) | exact isR.gx (by assumption) | exact isRd.gx (by assumption) | exact isSp.gx (by assumption) | exact isI.gx (isR.i (by assumption)) | exact isI.gx (isRd.i (by assumption)) | exact isI.gc (isRd.i (by assumption)) | exact isI.gx (isSp.i (by assumption)) | exact isW.gx (isR.w (by assumption)) | exact isW.gF (isR.w (by assumption)) | fail "no such object") (by rfl) ?_
  refine rj_iconst (pc := 7) dX9_lastToEnd_7 ?_
  refine rj_isub (pc := 8) dX9_lastToEnd_8 ?_
  refine r_istore_n (pc := 9) dX9_lastToEnd_9 (Nat.le_of_ble_eq_true rfl) ?_
  dsimp only [lsSt, List.set, mLs, mEnt]
  have y := L_lastToEnd (G := G) (l := l) d hW hc hZ hcapZ hC hi Z none none (Nat.le_refl _)
  rw [← hZ] at y
  exact y
end mg_88
section mg_89
/-! ===== the class: the faults it gathered ===== -/
theorem cnt_zero {p : Nat → Bool} : ∀ n : Nat, (∀ j, j < n → p j = false) → cnt p n = 0
  | 0, _ => rfl
  | n + 1, h => by rw [cnt_S, cnt_zero n (fun j hj => h j (by omega)), h n (by omega)]; rfl
def gbB (b : Nat) (f : Nat → Int) (i : Int) (t : Nat) : Bool := decide (b ≤ t ∧ f t = i)
theorem gbB_0 (b : Nat) (f : Nat → Int) (i : Int) : cnt (gbB b f i) b = 0 := cnt_zero b (fun j hj => decide_eq_false (fun g => absurd g.1 (by omega)))
def b0F (c : Nat → Int) (i : Int) : Nat := if i = -1 then (c 4).toNat else 0
def poL (b : Nat) (f : Nat → Int) (i k : Int) : Nat → Nat → Int
  | 0, _ => -1
  | n + 1, t => if gbB b f i t = true ∧ cnt (gbB b f i) t = k then (t : Int) else poL b f i k n (t + 1)
def ofF (c : Nat → Int) (i : Int) : Int := if inW c 2 10 i then c (495 + 9 * i.toNat) else 0
theorem ofF_r {c : Nat → Int} (hc : ∀ q, InR (c q)) (i : Int) : InR (ofF c i) := by
  unfold ofF; split
  · exact hc _
  · decide
theorem poL_r {b : Nat} {f : Nat → Int} {i k : Int} : ∀ (n t : Nat), -1 ≤ poL b f i k n t ∧ poL b f i k n t < t + n + 1
  | 0, t => by unfold poL; omega
  | n + 1, t => by
    unfold poL
    have y := poL_r (b := b) (f := f) (i := i) (k := k) n (t + 1)
    split <;> omega
set_option maxHeartbeats 4000000 in
set_option maxRecDepth 100000 in
theorem cn_gat {G : mG} {l : Launch} (d : Nat) {h : mH} {w : Nat} {c : Nat → Int} {C : Nat → Nat → Int} {nm : Nat → Int64} {g : Nat → Option Nat} (hW : isW h w c C nm g) (hc : ∀ q, InR (c q)) {F : Nat} (h11 : c 11 = (F : Int)) (h12 : c 12 = (F : Int)) (h13 : c 13 = (F : Int)) (hcapF : F ≤ 90) (h4 : 0 ≤ c 4 ∧ c 4 ≤ (F : Int)) (hC5 : ∀ q, InR (C 5 q)) {t : Nat} (ht : t < F) : RUNM G l (d + 1) mX1_at [.ref (wA w 15), .int (J (t : Int))] h (fun v h' => v = some (.int (J (C 5 t))) ∧ h' = h) := by
  have y := ci_at (G := G) (l := l) d hW.i5 (by decide) (hc _) (i := (t : Int)) ⟨by omega, by omega⟩
  rw [atF_t (by omega) (by omega)] at y
  exact y
set_option maxHeartbeats 4000000 in
set_option maxRecDepth 100000 in
theorem L_gatheredByC {G : mG} {l : Launch} (d : Nat) {h : mH} {w : Nat} {c : Nat → Int} {C : Nat → Nat → Int} {nm : Nat → Int64} {g : Nat → Option Nat} (hW : isW h w c C nm g) (hc : ∀ q, InR (c q)) {F : Nat} (h11 : c 11 = (F : Int)) (h12 : c 12 = (F : Int)) (h13 : c 13 = (F : Int)) (hcapF : F ≤ 90) (h4 : 0 ≤ c 4 ∧ c 4 ≤ (F : Int)) (hC5 : ∀ q, InR (C 5 q)) {i : Int} (hi : InR i) {b : Nat} : ∀ k t : Nat, t + k = F ∧ b ≤ t → RUN G l (d + 2) mX0_gatheredBy 16 [some (.ref (wA w 10)), some (.int (J i)), some (.int (J (cnt (gbB b (C 5) i) t))), some (.int (J (t : Int)))] [] h (fun v h' => v = some (.int (J (cnt (gbB b (C 5) i) F))) ∧ h' = h) := by
  intro k
  induction k with
  | zero =>
    intro t ht
    refine r_iload_n (pc := 16) dX0_gatheredBy_16 rfl ?_
    refine r_aload_n (pc := 17) dX0_gatheredBy_17 rfl (by first | rfl | exact isRefV_rf _) ?_
    refine r_getf (pc := 18) dX0_gatheredBy_18 fX0_14 (by first | assumption | exact isI.gx (by assumption) | exact isI.gc (by assumption) | exact isW.gx (by assumption) | exact isW.gF (by assumption) | exact isW.gT (by assumption) (by omega) | exact isW.gS (by assumption) (by omega) | exact isW.gK (by assumption) (by omega) | exact isW.g1 (by assumption) | exact isW.g2 (by assumption) | exact isW.g3 (by assumption) | exact isI.gx (isW.i0 (by assumption)) | exact isI.gc (isW.i0 (by assumption)) | exact isI.gx (isW.i1 (by assumption)) | exact isI.gc (isW.i1 (by assumption)) | exact isI.gx (isW.i2 (by assumption)) | exact isI.gc (isW.i2 (by assumption)) | exact isI.gx (isW.i3 (by assumption)) | exact isI.gc (isW.i3 (by assumption)) | exact isI.gx (isW.i4 (by assumption)) | exact isI.gc (isW.i4 (by assumption)) | exact isI.gx (isW.i5 (by assumption)) | exact isI.gc (isW.i5 (by assumption)) | exact isR.gx (by assumption) | exact isRd.gx (by assumption) | exact isSp.gx (by assumption) | exact isI.gx (isR.i (by assumption)) | exact isI.gx (isRd.i (by assumption)) | exact isI.gc (isRd.i (by assumption)) | exact isI.gx (isSp.i (by assumption)) | exact isW.gx (isR.w (by assumption)) | exact isW.gF (isR.w (by assumption)) | fail "no such object") (by rfl) ?_
    refine r_getf (pc := 21) dX0_gatheredBy_21 fX0_30 (by first | assumption | exact isI.gx (by assumption) | exact isI.gc (by assumption) | exact isW.gx (by assumption) | exact isW.gF (by assumption) | exact isW.gT (by assumption) (by omega) | exact isW.gS (by assumption) (by omega) | exact isW.gK (by assumption) (by omega) | exact isW.g1 (by assumption) | exact isW.g2 (by assumption) | exact isW.g3 (by assumption) | exact isI.gx (isW.i0 (by assumption)) | exact isI.gc (isW.i0 (by assumption)) | exact isI.gx (isW.i1 (by assumption)) | exact isI.gc (isW.i1 (by assumption)) | exact isI.gx (isW.i2 (by assumption)) | exact isI.gc (isW.i2 (by assumption)) | exact isI.gx (isW.i3 (by assumption)) | exact isI.gc (isW.i3 (by assumption)) | exact isI.gx (isW.i4 (by assumption)) | exact isI.gc (isW.i4 (by assumption)) | exact isI.gx (isW.i5 (by assumption)) | exact isI.gc (isW.i5 (by assumption)) | exact isR.gx (by assumption) | exact isRd.gx (by assumption) | exact isSp.gx (by assumption) | exact isI.gx (isR.i (by assumption)) | exact isI.gx (isRd.i (by assumption)) | exact isI.gc (isRd.i (by assumption)) | exact isI.gx (isSp.i (by assumption)) | exact isW.gx (isR.w (by assumption)) | exact isW.gF (isR.w (by assumption)) | fail "no such object") (by rfl) ?_
    refine rj_icmp_ge (pc := 24) (tgt := 48) dX0_gatheredBy_24 (by decide) (by first | exact b01_r | exact bz_r | omega | (constructor <;> omega) | apply_assumption | (apply atF_r; assumption) | fail "no range") (by first | exact b01_r | exact bz_r | omega | (constructor <;> omega) | apply_assumption | (apply atF_r; assumption) | fail "no range") (fun c_24 => ?_) (fun c_24 => ?_)
    · refine r_iload_n (pc := 48) dX0_gatheredBy_48 rfl ?_
      refine r_ireturn (pc := 49) .int dX0_gatheredBy_49 rfl (by first | rfl | assumption) ?_
      obtain rfl : t = F := by omega
      exact ⟨rfl, rfl⟩
    · exfalso; omega
  | succ k ih =>
    intro t ht
    refine r_iload_n (pc := 16) dX0_gatheredBy_16 rfl ?_
    refine r_aload_n (pc := 17) dX0_gatheredBy_17 rfl (by first | rfl | exact isRefV_rf _) ?_
    refine r_getf (pc := 18) dX0_gatheredBy_18 fX0_14 (by first | assumption | exact isI.gx (by assumption) | exact isI.gc (by assumption) | exact isW.gx (by assumption) | exact isW.gF (by assumption) | exact isW.gT (by assumption) (by omega) | exact isW.gS (by assumption) (by omega) | exact isW.gK (by assumption) (by omega) | exact isW.g1 (by assumption) | exact isW.g2 (by assumption) | exact isW.g3 (by assumption) | exact isI.gx (isW.i0 (by assumption)) | exact isI.gc (isW.i0 (by assumption)) | exact isI.gx (isW.i1 (by assumption)) | exact isI.gc (isW.i1 (by assumption)) | exact isI.gx (isW.i2 (by assumption)) | exact isI.gc (isW.i2 (by assumption)) | exact isI.gx (isW.i3 (by assumption)) | exact isI.gc (isW.i3 (by assumption)) | exact isI.gx (isW.i4 (by assumption)) | exact isI.gc (isW.i4 (by assumption)) | exact isI.gx (isW.i5 (by assumption)) | exact isI.gc (isW.i5 (by assumption)) | exact isR.gx (by assumption) | exact isRd.gx (by assumption) | exact isSp.gx (by assumption) | exact isI.gx (isR.i (by assumption)) | exact isI.gx (isRd.i (by assumption)) | exact isI.gc (isRd.i (by assumption)) | exact isI.gx (isSp.i (by assumption)) | exact isW.gx (isR.w (by assumption)) | exact isW.gF (isR.w (by assumption)) | fail "no such object") (by rfl) ?_
    refine r_getf (pc := 21) dX0_gatheredBy_21 fX0_30 (by first | assumption | exact isI.gx (by assumption) | exact isI.gc (by assumption) | exact isW.gx (by assumption) | exact isW.gF (by assumption) | exact isW.gT (by assumption) (by omega) | exact isW.gS (by assumption) (by omega) | exact isW.gK (by assumption) (by omega) | exact isW.g1 (by assumption) | exact isW.g2 (by assumption) | exact isW.g3 (by assumption) | exact isI.gx (isW.i0 (by assumption)) | exact isI.gc (isW.i0 (by assumption)) | exact isI.gx (isW.i1 (by assumption)) | exact isI.gc (isW.i1 (by assumption)) | exact isI.gx (isW.i2 (by assumption)) | exact isI.gc (isW.i2 (by assumption)) | exact isI.gx (isW.i3 (by assumption)) | exact isI.gc (isW.i3 (by assumption)) | exact isI.gx (isW.i4 (by assumption)) | exact isI.gc (isW.i4 (by assumption)) | exact isI.gx (isW.i5 (by assumption)) | exact isI.gc (isW.i5 (by assumption)) | exact isR.gx (by assumption) | exact isRd.gx (by assumption) | exact isSp.gx (by assumption) | exact isI.gx (isR.i (by assumption)) | exact isI.gx (isRd.i (by assumption)) | exact isI.gc (isRd.i (by assumption)) | exact isI.gx (isSp.i (by assumption)) | exact isW.gx (isR.w (by assumption)) | exact isW.gF (isR.w (by assumption)) | fail "no such object") (by rfl) ?_
    refine rj_icmp_ge (pc := 24) (tgt := 48) dX0_gatheredBy_24 (by decide) (by first | exact b01_r | exact bz_r | omega | (constructor <;> omega) | apply_assumption | (apply atF_r; assumption) | fail "no range") (by first | exact b01_r | exact bz_r | omega | (constructor <;> omega) | apply_assumption | (apply atF_r; assumption) | fail "no range") (fun c_24 => ?_) (fun c_24 => ?_)
    · refine r_iload_n (pc := 48) dX0_gatheredBy_48 rfl ?_
      refine r_ireturn (pc := 49) .int dX0_gatheredBy_49 rfl (by first | rfl | assumption) ?_
      exfalso; omega
    · refine r_aload_n (pc := 27) dX0_gatheredBy_27 rfl (by first | rfl | exact isRefV_rf _) ?_
      refine r_getf (pc := 28) dX0_gatheredBy_28 fX0_23 (by first | assumption | exact isI.gx (by assumption) | exact isI.gc (by assumption) | exact isW.gx (by assumption) | exact isW.gF (by assumption) | exact isW.gT (by assumption) (by omega) | exact isW.gS (by assumption) (by omega) | exact isW.gK (by assumption) (by omega) | exact isW.g1 (by assumption) | exact isW.g2 (by assumption) | exact isW.g3 (by assumption) | exact isI.gx (isW.i0 (by assumption)) | exact isI.gc (isW.i0 (by assumption)) | exact isI.gx (isW.i1 (by assumption)) | exact isI.gc (isW.i1 (by assumption)) | exact isI.gx (isW.i2 (by assumption)) | exact isI.gc (isW.i2 (by assumption)) | exact isI.gx (isW.i3 (by assumption)) | exact isI.gc (isW.i3 (by assumption)) | exact isI.gx (isW.i4 (by assumption)) | exact isI.gc (isW.i4 (by assumption)) | exact isI.gx (isW.i5 (by assumption)) | exact isI.gc (isW.i5 (by assumption)) | exact isR.gx (by assumption) | exact isRd.gx (by assumption) | exact isSp.gx (by assumption) | exact isI.gx (isR.i (by assumption)) | exact isI.gx (isRd.i (by assumption)) | exact isI.gc (isRd.i (by assumption)) | exact isI.gx (isSp.i (by assumption)) | exact isW.gx (isR.w (by assumption)) | exact isW.gF (isR.w (by assumption)) | fail "no such object") (by rfl) ?_
      refine r_iload_n (pc := 31) dX0_gatheredBy_31 rfl ?_
      refine r_callV1 (pc := 32) dX0_gatheredBy_32 qX1_at kX0_37 vX1_at (by first | assumption | exact isI.gx (by assumption) | exact isI.gc (by assumption) | exact isW.gx (by assumption) | exact isW.gF (by assumption) | exact isW.gT (by assumption) (by omega) | exact isW.gS (by assumption) (by omega) | exact isW.gK (by assumption) (by omega) | exact isW.g1 (by assumption) | exact isW.g2 (by assumption) | exact isW.g3 (by assumption) | exact isI.gx (isW.i0 (by assumption)) | exact isI.gc (isW.i0 (by assumption)) | exact isI.gx (isW.i1 (by assumption)) | exact isI.gc (isW.i1 (by assumption)) | exact isI.gx (isW.i2 (by assumption)) | exact isI.gc (isW.i2 (by assumption)) | exact isI.gx (isW.i3 (by assumption)) | exact isI.gc (isW.i3 (by assumption)) | exact isI.gx (isW.i4 (by assumption)) | exact isI.gc (isW.i4 (by assumption)) | exact isI.gx (isW.i5 (by assumption)) | exact isI.gc (isW.i5 (by assumption)) | exact isR.gx (by assumption) | exact isRd.gx (by assumption) | exact isSp.gx (by assumption) | exact isI.gx (isR.i (by assumption)) | exact isI.gx (isRd.i (by assumption)) | exact isI.gc (isRd.i (by assumption)) | exact isI.gx (isSp.i (by assumption)) | exact isW.gx (isR.w (by assumption)) | exact isW.gF (isR.w (by assumption)) | fail "no such object") rfl rfl (Nat.le_of_ble_eq_true rfl) (cn_gat (d) hW hc h11 h12 h13 hcapF h4 hC5 (t := t) (by omega)) (fun v_32 h_32 q_32 => ?_)
      obtain ⟨rfl, rfl⟩ := q_32
      have ro := hC5 t
      refine r_iload_n (pc := 35) dX0_gatheredBy_35 rfl ?_
      refine rj_icmp_ne (pc := 36) (tgt := 42) dX0_gatheredBy_36 (by decide) (by first | exact b01_r | exact bz_r | omega | (constructor <;> omega) | apply_assumption | (apply atF_r; assumption) | fail "no range") (by first | exact b01_r | exact bz_r | omega | (constructor <;> omega) | apply_assumption | (apply atF_r; assumption) | fail "no range") (fun c_36 => ?_) (fun c_36 => ?_)
      · refine rj_iinc (pc := 42) dX0_gatheredBy_42 (Nat.le_of_ble_eq_true rfl) rfl ?_
        dsimp only [lsSt, List.set, mLs, mEnt]
        refine r_goto (pc := 45) (tgt := 16) dX0_gatheredBy_45 (by decide) ?_
        have z := ih (t + 1) (by omega)
        have e1 : ((t + 1 : Nat) : Int) = (t : Int) + 1 := by omega
        have e2 := cnt_f (p := gbB b (C 5) i) (n := t) (decide_eq_false (fun g => c_36 g.2))
        rw [Int.add_zero] at e2
        rw [e1, ← e2] at z
        exact z
      · refine rj_iinc (pc := 39) dX0_gatheredBy_39 (Nat.le_of_ble_eq_true rfl) rfl ?_
        dsimp only [lsSt, List.set, mLs, mEnt]
        refine rj_iinc (pc := 42) dX0_gatheredBy_42 (Nat.le_of_ble_eq_true rfl) rfl ?_
        dsimp only [lsSt, List.set, mLs, mEnt]
        refine r_goto (pc := 45) (tgt := 16) dX0_gatheredBy_45 (by decide) ?_
        have z := ih (t + 1) (by omega)
        have e1 : ((t + 1 : Nat) : Int) = (t : Int) + 1 := by omega
        have e2 := cnt_t (p := gbB b (C 5) i) (n := t) (decide_eq_true ⟨ht.2, c_36⟩)
        rw [e1, ← e2] at z
        exact z
set_option maxHeartbeats 4000000 in
set_option maxRecDepth 100000 in
theorem cq_gatheredByC {G : mG} {l : Launch} (d : Nat) {h : mH} {w : Nat} {c : Nat → Int} {C : Nat → Nat → Int} {nm : Nat → Int64} {g : Nat → Option Nat} (hW : isW h w c C nm g) (hc : ∀ q, InR (c q)) {F : Nat} (h11 : c 11 = (F : Int)) (h12 : c 12 = (F : Int)) (h13 : c 13 = (F : Int)) (hcapF : F ≤ 90) (h4 : 0 ≤ c 4 ∧ c 4 ≤ (F : Int)) (hC5 : ∀ q, InR (C 5 q)) {i : Int} (hi : InR i) : RUNM G l (d + 2) mX0_gatheredBy [.ref (wA w 10), .int (J i)] h (fun v h' => v = some (.int (J (cnt (gbB (b0F c i) (C 5) i) F))) ∧ h' = h) := by
  refine RUNM.of (by decide +kernel) (Nat.le_of_ble_eq_true rfl) ?_
  refine rj_iconst (pc := 0) dX0_gatheredBy_0 ?_
  refine r_istore_n (pc := 1) dX0_gatheredBy_1 (Nat.le_of_ble_eq_true rfl) ?_
  dsimp only [lsSt, List.set, mLs, mEnt]
  refine r_iload_n (pc := 2) dX0_gatheredBy_2 rfl ?_
  refine rj_iconst (pc := 3) dX0_gatheredBy_3 ?_
  refine rj_icmp_ne (pc := 4) (tgt := 14) dX0_gatheredBy_4 (by decide) (by first | exact b01_r | exact bz_r | omega | (constructor <;> omega) | apply_assumption | (apply atF_r; assumption) | fail "no range") (by first | exact b01_r | exact bz_r | omega | (constructor <;> omega) | apply_assumption | (apply atF_r; assumption) | fail "no range") (fun c_4 => ?_) (fun c_4 => ?_)
  · refine rj_iconst (pc := 14) dX0_gatheredBy_14 ?_
    refine r_istore_n (pc := 15) dX0_gatheredBy_15 (Nat.le_of_ble_eq_true rfl) ?_
    dsimp only [lsSt, List.set, mLs, mEnt]
    have y := L_gatheredByC (G := G) (l := l) d hW hc h11 h12 h13 hcapF h4 hC5 hi (b := b0F c i) (F - b0F c i) (b0F c i) (by unfold b0F; split <;> omega)
    rw [gbB_0] at y
    rw [show ((b0F c i : Nat) : Int) = 0 by unfold b0F; rw [if_neg (by omega)]; omega] at y
    exact y
  · refine r_aload_n (pc := 7) dX0_gatheredBy_7 rfl (by first | rfl | exact isRefV_rf _) ?_
    refine r_getf (pc := 8) dX0_gatheredBy_8 fX0_34 (by first | assumption | exact isI.gx (by assumption) | exact isI.gc (by assumption) | exact isW.gx (by assumption) | exact isW.gF (by assumption) | exact isW.gT (by assumption) (by omega) | exact isW.gS (by assumption) (by omega) | exact isW.gK (by assumption) (by omega) | exact isW.g1 (by assumption) | exact isW.g2 (by assumption) | exact isW.g3 (by assumption) | exact isI.gx (isW.i0 (by assumption)) | exact isI.gc (isW.i0 (by assumption)) | exact isI.gx (isW.i1 (by assumption)) | exact isI.gc (isW.i1 (by assumption)) | exact isI.gx (isW.i2 (by assumption)) | exact isI.gc (isW.i2 (by assumption)) | exact isI.gx (isW.i3 (by assumption)) | exact isI.gc (isW.i3 (by assumption)) | exact isI.gx (isW.i4 (by assumption)) | exact isI.gc (isW.i4 (by assumption)) | exact isI.gx (isW.i5 (by assumption)) | exact isI.gc (isW.i5 (by assumption)) | exact isR.gx (by assumption) | exact isRd.gx (by assumption) | exact isSp.gx (by assumption) | exact isI.gx (isR.i (by assumption)) | exact isI.gx (isRd.i (by assumption)) | exact isI.gc (isRd.i (by assumption)) | exact isI.gx (isSp.i (by assumption)) | exact isW.gx (isR.w (by assumption)) | exact isW.gF (isR.w (by assumption)) | fail "no such object") (by rfl) ?_
    refine r_goto (pc := 11) (tgt := 15) dX0_gatheredBy_11 (by decide) ?_
    refine r_istore_n (pc := 15) dX0_gatheredBy_15 (Nat.le_of_ble_eq_true rfl) ?_
    dsimp only [lsSt, List.set, mLs, mEnt]
    have y := L_gatheredByC (G := G) (l := l) d hW hc h11 h12 h13 hcapF h4 hC5 hi (b := b0F c i) (F - b0F c i) (b0F c i) (by unfold b0F; split <;> omega)
    rw [gbB_0] at y
    rw [show ((b0F c i : Nat) : Int) = c 4 by unfold b0F; rw [if_pos (by omega)]; omega] at y
    exact y
set_option maxHeartbeats 4000000 in
set_option maxRecDepth 100000 in
theorem L_placeOf {G : mG} {l : Launch} (d : Nat) {h : mH} {w : Nat} {c : Nat → Int} {C : Nat → Nat → Int} {nm : Nat → Int64} {g : Nat → Option Nat} (hW : isW h w c C nm g) (hc : ∀ q, InR (c q)) {F : Nat} (h11 : c 11 = (F : Int)) (h12 : c 12 = (F : Int)) (h13 : c 13 = (F : Int)) (hcapF : F ≤ 90) (h4 : 0 ≤ c 4 ∧ c 4 ≤ (F : Int)) (hC5 : ∀ q, InR (C 5 q)) {i k : Int} (hi : InR i) (hk : InR k) {b : Nat} : ∀ n t : Nat, t + n = F ∧ b ≤ t → RUN G l (d + 2) mX0_placeOf 17 [some (.ref (wA w 10)), some (.int (J i)), some (.int (J k)), some (.int (J (cnt (gbB b (C 5) i) t))), some (.int (J (t : Int)))] [] h (fun v h' => v = some (.int (J (poL b (C 5) i k n t))) ∧ h' = h) := by
  intro n
  induction n with
  | zero =>
    intro t ht
    refine r_iload (pc := 17) dX0_placeOf_17 rfl ?_
    refine r_aload_n (pc := 19) dX0_placeOf_19 rfl (by first | rfl | exact isRefV_rf _) ?_
    refine r_getf (pc := 20) dX0_placeOf_20 fX0_14 (by first | assumption | exact isI.gx (by assumption) | exact isI.gc (by assumption) | exact isW.gx (by assumption) | exact isW.gF (by assumption) | exact isW.gT (by assumption) (by omega) | exact isW.gS (by assumption) (by omega) | exact isW.gK (by assumption) (by omega) | exact isW.g1 (by assumption) | exact isW.g2 (by assumption) | exact isW.g3 (by assumption) | exact isI.gx (isW.i0 (by assumption)) | exact isI.gc (isW.i0 (by assumption)) | exact isI.gx (isW.i1 (by assumption)) | exact isI.gc (isW.i1 (by assumption)) | exact isI.gx (isW.i2 (by assumption)) | exact isI.gc (isW.i2 (by assumption)) | exact isI.gx (isW.i3 (by assumption)) | exact isI.gc (isW.i3 (by assumption)) | exact isI.gx (isW.i4 (by assumption)) | exact isI.gc (isW.i4 (by assumption)) | exact isI.gx (isW.i5 (by assumption)) | exact isI.gc (isW.i5 (by assumption)) | exact isR.gx (by assumption) | exact isRd.gx (by assumption) | exact isSp.gx (by assumption) | exact isI.gx (isR.i (by assumption)) | exact isI.gx (isRd.i (by assumption)) | exact isI.gc (isRd.i (by assumption)) | exact isI.gx (isSp.i (by assumption)) | exact isW.gx (isR.w (by assumption)) | exact isW.gF (isR.w (by assumption)) | fail "no such object") (by rfl) ?_
    refine r_getf (pc := 23) dX0_placeOf_23 fX0_30 (by first | assumption | exact isI.gx (by assumption) | exact isI.gc (by assumption) | exact isW.gx (by assumption) | exact isW.gF (by assumption) | exact isW.gT (by assumption) (by omega) | exact isW.gS (by assumption) (by omega) | exact isW.gK (by assumption) (by omega) | exact isW.g1 (by assumption) | exact isW.g2 (by assumption) | exact isW.g3 (by assumption) | exact isI.gx (isW.i0 (by assumption)) | exact isI.gc (isW.i0 (by assumption)) | exact isI.gx (isW.i1 (by assumption)) | exact isI.gc (isW.i1 (by assumption)) | exact isI.gx (isW.i2 (by assumption)) | exact isI.gc (isW.i2 (by assumption)) | exact isI.gx (isW.i3 (by assumption)) | exact isI.gc (isW.i3 (by assumption)) | exact isI.gx (isW.i4 (by assumption)) | exact isI.gc (isW.i4 (by assumption)) | exact isI.gx (isW.i5 (by assumption)) | exact isI.gc (isW.i5 (by assumption)) | exact isR.gx (by assumption) | exact isRd.gx (by assumption) | exact isSp.gx (by assumption) | exact isI.gx (isR.i (by assumption)) | exact isI.gx (isRd.i (by assumption)) | exact isI.gc (isRd.i (by assumption)) | exact isI.gx (isSp.i (by assumption)) | exact isW.gx (isR.w (by assumption)) | exact isW.gF (isR.w (by assumption)) | fail "no such object") (by rfl) ?_
    refine rj_icmp_ge (pc := 26) (tgt := 59) dX0_placeOf_26 (by decide) (by first | exact b01_r | exact bz_r | omega | (constructor <;> omega) | apply_assumption | (apply atF_r; assumption) | fail "no range") (by first | exact b01_r | exact bz_r | omega | (constructor <;> omega) | apply_assumption | (apply atF_r; assumption) | fail "no range") (fun c_26 => ?_) (fun c_26 => ?_)
    · refine rj_iconst (pc := 59) dX0_placeOf_59 ?_
      refine r_ireturn (pc := 60) .int dX0_placeOf_60 rfl (by first | rfl | assumption) ?_
      exact ⟨rfl, rfl⟩
    · exfalso; omega
  | succ n ih =>
    intro t ht
    have rk := cnt_r (gbB b (C 5) i) t
    refine r_iload (pc := 17) dX0_placeOf_17 rfl ?_
    refine r_aload_n (pc := 19) dX0_placeOf_19 rfl (by first | rfl | exact isRefV_rf _) ?_
    refine r_getf (pc := 20) dX0_placeOf_20 fX0_14 (by first | assumption | exact isI.gx (by assumption) | exact isI.gc (by assumption) | exact isW.gx (by assumption) | exact isW.gF (by assumption) | exact isW.gT (by assumption) (by omega) | exact isW.gS (by assumption) (by omega) | exact isW.gK (by assumption) (by omega) | exact isW.g1 (by assumption) | exact isW.g2 (by assumption) | exact isW.g3 (by assumption) | exact isI.gx (isW.i0 (by assumption)) | exact isI.gc (isW.i0 (by assumption)) | exact isI.gx (isW.i1 (by assumption)) | exact isI.gc (isW.i1 (by assumption)) | exact isI.gx (isW.i2 (by assumption)) | exact isI.gc (isW.i2 (by assumption)) | exact isI.gx (isW.i3 (by assumption)) | exact isI.gc (isW.i3 (by assumption)) | exact isI.gx (isW.i4 (by assumption)) | exact isI.gc (isW.i4 (by assumption)) | exact isI.gx (isW.i5 (by assumption)) | exact isI.gc (isW.i5 (by assumption)) | exact isR.gx (by assumption) | exact isRd.gx (by assumption) | exact isSp.gx (by assumption) | exact isI.gx (isR.i (by assumption)) | exact isI.gx (isRd.i (by assumption)) | exact isI.gc (isRd.i (by assumption)) | exact isI.gx (isSp.i (by assumption)) | exact isW.gx (isR.w (by assumption)) | exact isW.gF (isR.w (by assumption)) | fail "no such object") (by rfl) ?_
    refine r_getf (pc := 23) dX0_placeOf_23 fX0_30 (by first | assumption | exact isI.gx (by assumption) | exact isI.gc (by assumption) | exact isW.gx (by assumption) | exact isW.gF (by assumption) | exact isW.gT (by assumption) (by omega) | exact isW.gS (by assumption) (by omega) | exact isW.gK (by assumption) (by omega) | exact isW.g1 (by assumption) | exact isW.g2 (by assumption) | exact isW.g3 (by assumption) | exact isI.gx (isW.i0 (by assumption)) | exact isI.gc (isW.i0 (by assumption)) | exact isI.gx (isW.i1 (by assumption)) | exact isI.gc (isW.i1 (by assumption)) | exact isI.gx (isW.i2 (by assumption)) | exact isI.gc (isW.i2 (by assumption)) | exact isI.gx (isW.i3 (by assumption)) | exact isI.gc (isW.i3 (by assumption)) | exact isI.gx (isW.i4 (by assumption)) | exact isI.gc (isW.i4 (by assumption)) | exact isI.gx (isW.i5 (by assumption)) | exact isI.gc (isW.i5 (by assumption)) | exact isR.gx (by assumption) | exact isRd.gx (by assumption) | exact isSp.gx (by assumption) | exact isI.gx (isR.i (by assumption)) | exact isI.gx (isRd.i (by assumption)) | exact isI.gc (isRd.i (by assumption)) | exact isI.gx (isSp.i (by assumption)) | exact isW.gx (isR.w (by assumption)) | exact isW.gF (isR.w (by assumption)) | fail "no such object") (by rfl) ?_
    refine rj_icmp_ge (pc := 26) (tgt := 59) dX0_placeOf_26 (by decide) (by first | exact b01_r | exact bz_r | omega | (constructor <;> omega) | apply_assumption | (apply atF_r; assumption) | fail "no range") (by first | exact b01_r | exact bz_r | omega | (constructor <;> omega) | apply_assumption | (apply atF_r; assumption) | fail "no range") (fun c_26 => ?_) (fun c_26 => ?_)
    · refine rj_iconst (pc := 59) dX0_placeOf_59 ?_
      refine r_ireturn (pc := 60) .int dX0_placeOf_60 rfl (by first | rfl | assumption) ?_
      first | (exfalso; omega) | exact ⟨by rw [poL, if_pos ⟨decide_eq_true ⟨ht.2, c_39⟩, c_44⟩], rfl⟩
    · refine r_aload_n (pc := 29) dX0_placeOf_29 rfl (by first | rfl | exact isRefV_rf _) ?_
      refine r_getf (pc := 30) dX0_placeOf_30 fX0_23 (by first | assumption | exact isI.gx (by assumption) | exact isI.gc (by assumption) | exact isW.gx (by assumption) | exact isW.gF (by assumption) | exact isW.gT (by assumption) (by omega) | exact isW.gS (by assumption) (by omega) | exact isW.gK (by assumption) (by omega) | exact isW.g1 (by assumption) | exact isW.g2 (by assumption) | exact isW.g3 (by assumption) | exact isI.gx (isW.i0 (by assumption)) | exact isI.gc (isW.i0 (by assumption)) | exact isI.gx (isW.i1 (by assumption)) | exact isI.gc (isW.i1 (by assumption)) | exact isI.gx (isW.i2 (by assumption)) | exact isI.gc (isW.i2 (by assumption)) | exact isI.gx (isW.i3 (by assumption)) | exact isI.gc (isW.i3 (by assumption)) | exact isI.gx (isW.i4 (by assumption)) | exact isI.gc (isW.i4 (by assumption)) | exact isI.gx (isW.i5 (by assumption)) | exact isI.gc (isW.i5 (by assumption)) | exact isR.gx (by assumption) | exact isRd.gx (by assumption) | exact isSp.gx (by assumption) | exact isI.gx (isR.i (by assumption)) | exact isI.gx (isRd.i (by assumption)) | exact isI.gc (isRd.i (by assumption)) | exact isI.gx (isSp.i (by assumption)) | exact isW.gx (isR.w (by assumption)) | exact isW.gF (isR.w (by assumption)) | fail "no such object") (by rfl) ?_
      refine r_iload (pc := 33) dX0_placeOf_33 rfl ?_
      refine r_callV1 (pc := 35) dX0_placeOf_35 qX1_at kX0_37 vX1_at (by first | assumption | exact isI.gx (by assumption) | exact isI.gc (by assumption) | exact isW.gx (by assumption) | exact isW.gF (by assumption) | exact isW.gT (by assumption) (by omega) | exact isW.gS (by assumption) (by omega) | exact isW.gK (by assumption) (by omega) | exact isW.g1 (by assumption) | exact isW.g2 (by assumption) | exact isW.g3 (by assumption) | exact isI.gx (isW.i0 (by assumption)) | exact isI.gc (isW.i0 (by assumption)) | exact isI.gx (isW.i1 (by assumption)) | exact isI.gc (isW.i1 (by assumption)) | exact isI.gx (isW.i2 (by assumption)) | exact isI.gc (isW.i2 (by assumption)) | exact isI.gx (isW.i3 (by assumption)) | exact isI.gc (isW.i3 (by assumption)) | exact isI.gx (isW.i4 (by assumption)) | exact isI.gc (isW.i4 (by assumption)) | exact isI.gx (isW.i5 (by assumption)) | exact isI.gc (isW.i5 (by assumption)) | exact isR.gx (by assumption) | exact isRd.gx (by assumption) | exact isSp.gx (by assumption) | exact isI.gx (isR.i (by assumption)) | exact isI.gx (isRd.i (by assumption)) | exact isI.gc (isRd.i (by assumption)) | exact isI.gx (isSp.i (by assumption)) | exact isW.gx (isR.w (by assumption)) | exact isW.gF (isR.w (by assumption)) | fail "no such object") rfl rfl (Nat.le_of_ble_eq_true rfl) (cn_gat (d) hW hc h11 h12 h13 hcapF h4 hC5 (t := t) (by omega)) (fun v_35 h_35 q_35 => ?_)
      obtain ⟨rfl, rfl⟩ := q_35
      have ro := hC5 t
      refine r_iload_n (pc := 38) dX0_placeOf_38 rfl ?_
      refine rj_icmp_ne (pc := 39) (tgt := 53) dX0_placeOf_39 (by decide) (by first | exact b01_r | exact bz_r | omega | (constructor <;> omega) | apply_assumption | (apply atF_r; assumption) | fail "no range") (by first | exact b01_r | exact bz_r | omega | (constructor <;> omega) | apply_assumption | (apply atF_r; assumption) | fail "no range") (fun c_39 => ?_) (fun c_39 => ?_)
      · refine rj_iinc (pc := 53) dX0_placeOf_53 (Nat.le_of_ble_eq_true rfl) rfl ?_
        dsimp only [lsSt, List.set, mLs, mEnt]
        refine r_goto (pc := 56) (tgt := 17) dX0_placeOf_56 (by decide) ?_
        have z := ih (t + 1) (by omega)
        have e1 : ((t + 1 : Nat) : Int) = (t : Int) + 1 := by omega
        have e2 := cnt_f (p := gbB b (C 5) i) (n := t) (decide_eq_false (fun g => c_39 g.2))
        rw [Int.add_zero] at e2
        rw [poL, if_neg (fun g => c_39 (of_decide_eq_true g.1).2)]
        rw [e1, ← e2] at z
        exact z
      · refine r_iload_n (pc := 42) dX0_placeOf_42 rfl ?_
        refine r_iload_n (pc := 43) dX0_placeOf_43 rfl ?_
        refine rj_icmp_ne (pc := 44) (tgt := 50) dX0_placeOf_44 (by decide) (by first | exact b01_r | exact bz_r | omega | (constructor <;> omega) | apply_assumption | (apply atF_r; assumption) | fail "no range") (by first | exact b01_r | exact bz_r | omega | (constructor <;> omega) | apply_assumption | (apply atF_r; assumption) | fail "no range") (fun c_44 => ?_) (fun c_44 => ?_)
        · refine rj_iinc (pc := 50) dX0_placeOf_50 (Nat.le_of_ble_eq_true rfl) rfl ?_
          dsimp only [lsSt, List.set, mLs, mEnt]
          refine rj_iinc (pc := 53) dX0_placeOf_53 (Nat.le_of_ble_eq_true rfl) rfl ?_
          dsimp only [lsSt, List.set, mLs, mEnt]
          refine r_goto (pc := 56) (tgt := 17) dX0_placeOf_56 (by decide) ?_
          have z := ih (t + 1) (by omega)
          have e1 : ((t + 1 : Nat) : Int) = (t : Int) + 1 := by omega
          have e2 := cnt_t (p := gbB b (C 5) i) (n := t) (decide_eq_true ⟨ht.2, c_39⟩)
          rw [poL, if_neg (fun g => c_44 g.2)]
          rw [e1, ← e2] at z
          exact z
        · refine r_iload (pc := 47) dX0_placeOf_47 rfl ?_
          refine r_ireturn (pc := 49) .int dX0_placeOf_49 rfl (by first | rfl | assumption) ?_
          first | (exfalso; omega) | exact ⟨by rw [poL, if_pos ⟨decide_eq_true ⟨ht.2, c_39⟩, c_44⟩], rfl⟩
def pwF (c : Nat → Int) (f : Nat → Int) (F : Nat) (i k : Int) : Int := poL (b0F c i) f i k (F - b0F c i) (b0F c i)
theorem pwF_r {c : Nat → Int} {f : Nat → Int} {F : Nat} {i k : Int} : -1 ≤ pwF c f F i k ∧ (b0F c i ≤ F → pwF c f F i k ≤ F) := by
  unfold pwF
  have y := poL_r (b := b0F c i) (f := f) (i := i) (k := k) (F - b0F c i) (b0F c i)
  exact ⟨y.1, fun z => by omega⟩
set_option maxHeartbeats 4000000 in
set_option maxRecDepth 100000 in
theorem cq_placeOf {G : mG} {l : Launch} (d : Nat) {h : mH} {w : Nat} {c : Nat → Int} {C : Nat → Nat → Int} {nm : Nat → Int64} {g : Nat → Option Nat} (hW : isW h w c C nm g) (hc : ∀ q, InR (c q)) {F : Nat} (h11 : c 11 = (F : Int)) (h12 : c 12 = (F : Int)) (h13 : c 13 = (F : Int)) (hcapF : F ≤ 90) (h4 : 0 ≤ c 4 ∧ c 4 ≤ (F : Int)) (hC5 : ∀ q, InR (C 5 q)) {i k : Int} (hi : InR i) (hk : InR k) : RUNM G l (d + 2) mX0_placeOf [.ref (wA w 10), .int (J i), .int (J k)] h (fun v h' => v = some (.int (J (pwF c (C 5) F i k))) ∧ h' = h) := by
  refine RUNM.of (by decide +kernel) (Nat.le_of_ble_eq_true rfl) ?_
  refine rj_iconst (pc := 0) dX0_placeOf_0 ?_
  refine r_istore_n (pc := 1) dX0_placeOf_1 (Nat.le_of_ble_eq_true rfl) ?_
  dsimp only [lsSt, List.set, mLs, mEnt]
  refine r_iload_n (pc := 2) dX0_placeOf_2 rfl ?_
  refine rj_iconst (pc := 3) dX0_placeOf_3 ?_
  refine rj_icmp_ne (pc := 4) (tgt := 14) dX0_placeOf_4 (by decide) (by first | exact b01_r | exact bz_r | omega | (constructor <;> omega) | apply_assumption | (apply atF_r; assumption) | fail "no range") (by first | exact b01_r | exact bz_r | omega | (constructor <;> omega) | apply_assumption | (apply atF_r; assumption) | fail "no range") (fun c_4 => ?_) (fun c_4 => ?_)
  · refine rj_iconst (pc := 14) dX0_placeOf_14 ?_
    refine r_istore (pc := 15) dX0_placeOf_15 (Nat.le_of_ble_eq_true rfl) ?_
    dsimp only [lsSt, List.set, mLs, mEnt]
    have y := L_placeOf (G := G) (l := l) d hW hc h11 h12 h13 hcapF h4 hC5 hi hk (b := b0F c i) (F - b0F c i) (b0F c i) (by unfold b0F; split <;> omega)
    rw [gbB_0] at y
    rw [show ((b0F c i : Nat) : Int) = 0 by unfold b0F; rw [if_neg (by omega)]; omega] at y
    exact y
  · refine r_aload_n (pc := 7) dX0_placeOf_7 rfl (by first | rfl | exact isRefV_rf _) ?_
    refine r_getf (pc := 8) dX0_placeOf_8 fX0_34 (by first | assumption | exact isI.gx (by assumption) | exact isI.gc (by assumption) | exact isW.gx (by assumption) | exact isW.gF (by assumption) | exact isW.gT (by assumption) (by omega) | exact isW.gS (by assumption) (by omega) | exact isW.gK (by assumption) (by omega) | exact isW.g1 (by assumption) | exact isW.g2 (by assumption) | exact isW.g3 (by assumption) | exact isI.gx (isW.i0 (by assumption)) | exact isI.gc (isW.i0 (by assumption)) | exact isI.gx (isW.i1 (by assumption)) | exact isI.gc (isW.i1 (by assumption)) | exact isI.gx (isW.i2 (by assumption)) | exact isI.gc (isW.i2 (by assumption)) | exact isI.gx (isW.i3 (by assumption)) | exact isI.gc (isW.i3 (by assumption)) | exact isI.gx (isW.i4 (by assumption)) | exact isI.gc (isW.i4 (by assumption)) | exact isI.gx (isW.i5 (by assumption)) | exact isI.gc (isW.i5 (by assumption)) | exact isR.gx (by assumption) | exact isRd.gx (by assumption) | exact isSp.gx (by assumption) | exact isI.gx (isR.i (by assumption)) | exact isI.gx (isRd.i (by assumption)) | exact isI.gc (isRd.i (by assumption)) | exact isI.gx (isSp.i (by assumption)) | exact isW.gx (isR.w (by assumption)) | exact isW.gF (isR.w (by assumption)) | fail "no such object") (by rfl) ?_
    refine r_goto (pc := 11) (tgt := 15) dX0_placeOf_11 (by decide) ?_
    refine r_istore (pc := 15) dX0_placeOf_15 (Nat.le_of_ble_eq_true rfl) ?_
    dsimp only [lsSt, List.set, mLs, mEnt]
    have y := L_placeOf (G := G) (l := l) d hW hc h11 h12 h13 hcapF h4 hC5 hi hk (b := b0F c i) (F - b0F c i) (b0F c i) (by unfold b0F; split <;> omega)
    rw [gbB_0] at y
    rw [show ((b0F c i : Nat) : Int) = c 4 by unfold b0F; rw [if_pos (by omega)]; omega] at y
    exact y
set_option maxHeartbeats 4000000 in
set_option maxRecDepth 100000 in
theorem cq_ownFault {G : mG} {l : Launch} (d : Nat) {h : mH} {w : Nat} {c : Nat → Int} {C : Nat → Nat → Int} {nm : Nat → Int64} {g : Nat → Option Nat} (hW : isW h w c C nm g) (hc : ∀ q, InR (c q)) {i : Int} (hi : InR i) : RUNM G l (d + 1) mX9_ownFault [.ref w, .int (J i)] h (fun v h' => v = some (.int (J (ofF c i))) ∧ h' = h) := by
  refine RUNM.of (by decide +kernel) (Nat.le_of_ble_eq_true rfl) ?_
  refine r_aload_n (pc := 0) dX9_ownFault_0 rfl (by first | rfl | exact isRefV_rf _) ?_
  refine r_iload_n (pc := 1) dX9_ownFault_1 rfl ?_
  refine r_callV1 (pc := 2) dX9_ownFault_2 qX9_taskAt kX9_128 vX9_taskAt (by first | assumption | exact isI.gx (by assumption) | exact isI.gc (by assumption) | exact isW.gx (by assumption) | exact isW.gF (by assumption) | exact isW.gT (by assumption) (by omega) | exact isW.gS (by assumption) (by omega) | exact isW.gK (by assumption) (by omega) | exact isW.g1 (by assumption) | exact isW.g2 (by assumption) | exact isW.g3 (by assumption) | exact isI.gx (isW.i0 (by assumption)) | exact isI.gc (isW.i0 (by assumption)) | exact isI.gx (isW.i1 (by assumption)) | exact isI.gc (isW.i1 (by assumption)) | exact isI.gx (isW.i2 (by assumption)) | exact isI.gc (isW.i2 (by assumption)) | exact isI.gx (isW.i3 (by assumption)) | exact isI.gc (isW.i3 (by assumption)) | exact isI.gx (isW.i4 (by assumption)) | exact isI.gc (isW.i4 (by assumption)) | exact isI.gx (isW.i5 (by assumption)) | exact isI.gc (isW.i5 (by assumption)) | exact isR.gx (by assumption) | exact isRd.gx (by assumption) | exact isSp.gx (by assumption) | exact isI.gx (isR.i (by assumption)) | exact isI.gx (isRd.i (by assumption)) | exact isI.gc (isRd.i (by assumption)) | exact isI.gx (isSp.i (by assumption)) | exact isW.gx (isR.w (by assumption)) | exact isW.gF (isR.w (by assumption)) | fail "no such object") rfl rfl (Nat.le_of_ble_eq_true rfl) (cw_taskAt _ hW hc hi) (fun v_2 h_2 q_2 => ?_)
  obtain ⟨q1_2, rfl⟩ := q_2
  by_cases e_2 : inW c 2 10 i
  · obtain rfl := tkAt_P e_2 q1_2
    refine r_astore_n (pc := 5) dX9_ownFault_5 (Nat.le_of_ble_eq_true rfl) (by first | rfl | exact isRefV_rf _) ?_
    dsimp only [lsSt, List.set, mLs, mEnt]
    refine r_aload_n (pc := 6) dX9_ownFault_6 rfl (by first | rfl | exact isRefV_rf _) ?_
    refine r_ifnonnull (pc := 7) (tgt := 14) dX9_ownFault_7 (by decide) (by first | rfl | exact isRefV_rf _) (fun a_7 c_7 => ?_) (fun c_7 => by cases c_7)
    refine r_aload_n (pc := 14) dX9_ownFault_14 rfl (by first | rfl | exact isRefV_rf _) ?_
    refine r_getf (pc := 15) dX9_ownFault_15 fX9_194 (by first | assumption | exact isI.gx (by assumption) | exact isI.gc (by assumption) | exact isW.gx (by assumption) | exact isW.gF (by assumption) | exact isW.gT (by assumption) (by omega) | exact isW.gS (by assumption) (by omega) | exact isW.gK (by assumption) (by omega) | exact isW.g1 (by assumption) | exact isW.g2 (by assumption) | exact isW.g3 (by assumption) | exact isI.gx (isW.i0 (by assumption)) | exact isI.gc (isW.i0 (by assumption)) | exact isI.gx (isW.i1 (by assumption)) | exact isI.gc (isW.i1 (by assumption)) | exact isI.gx (isW.i2 (by assumption)) | exact isI.gc (isW.i2 (by assumption)) | exact isI.gx (isW.i3 (by assumption)) | exact isI.gc (isW.i3 (by assumption)) | exact isI.gx (isW.i4 (by assumption)) | exact isI.gc (isW.i4 (by assumption)) | exact isI.gx (isW.i5 (by assumption)) | exact isI.gc (isW.i5 (by assumption)) | exact isR.gx (by assumption) | exact isRd.gx (by assumption) | exact isSp.gx (by assumption) | exact isI.gx (isR.i (by assumption)) | exact isI.gx (isRd.i (by assumption)) | exact isI.gc (isRd.i (by assumption)) | exact isI.gx (isSp.i (by assumption)) | exact isW.gx (isR.w (by assumption)) | exact isW.gF (isR.w (by assumption)) | fail "no such object") (by rfl) ?_
    refine r_ireturn (pc := 18) .int dX9_ownFault_18 rfl (by first | rfl | assumption) ?_
    first | exact ⟨by unfold ofF; rw [if_pos (by assumption)], rfl⟩ | exact ⟨by unfold ofF; rw [if_neg (by assumption)], rfl⟩
  · obtain rfl := tkAt_N e_2 q1_2
    refine r_astore_n (pc := 5) dX9_ownFault_5 (Nat.le_of_ble_eq_true rfl) (by first | rfl | exact isRefV_rf _) ?_
    dsimp only [lsSt, List.set, mLs, mEnt]
    refine r_aload_n (pc := 6) dX9_ownFault_6 rfl (by first | rfl | exact isRefV_rf _) ?_
    refine r_ifnonnull (pc := 7) (tgt := 14) dX9_ownFault_7 (by decide) (by first | rfl | exact isRefV_rf _) (fun a_7 c_7 => by cases c_7) (fun c_7 => ?_)
    refine rj_iconst (pc := 10) dX9_ownFault_10 ?_
    refine r_goto (pc := 11) (tgt := 18) dX9_ownFault_11 (by decide) ?_
    refine r_ireturn (pc := 18) .int dX9_ownFault_18 rfl (by first | rfl | assumption) ?_
    first | exact ⟨by unfold ofF; rw [if_pos (by assumption)], rfl⟩ | exact ⟨by unfold ofF; rw [if_neg (by assumption)], rfl⟩
def fcF (c : Nat → Int) (f : Nat → Int) (F : Nat) (i : Int) : Int := cnt (gbB (b0F c i) f i) F + (if ofF c i = 0 then 0 else 1)
set_option maxHeartbeats 4000000 in
set_option maxRecDepth 100000 in
theorem cq_faultCount {G : mG} {l : Launch} (d : Nat) {h : mH} {w : Nat} {c : Nat → Int} {C : Nat → Nat → Int} {nm : Nat → Int64} {g : Nat → Option Nat} (hW : isW h w c C nm g) (hc : ∀ q, InR (c q)) {F : Nat} (h11 : c 11 = (F : Int)) (h12 : c 12 = (F : Int)) (h13 : c 13 = (F : Int)) (hcapF : F ≤ 90) (h4 : 0 ≤ c 4 ∧ c 4 ≤ (F : Int)) (hC5 : ∀ q, InR (C 5 q)) {i : Int} (hi : InR i) : RUNM G l (d + 3) mX9_faultCount [.ref w, .int (J i)] h (fun v h' => v = some (.int (J (fcF c (C 5) F i))) ∧ h' = h) := by
  refine RUNM.of (by decide +kernel) (Nat.le_of_ble_eq_true rfl) ?_
  refine r_aload_n (pc := 0) dX9_faultCount_0 rfl (by first | rfl | exact isRefV_rf _) ?_
  refine r_getf (pc := 1) dX9_faultCount_1 fX9_47 (by first | assumption | exact isI.gx (by assumption) | exact isI.gc (by assumption) | exact isW.gx (by assumption) | exact isW.gF (by assumption) | exact isW.gT (by assumption) (by omega) | exact isW.gS (by assumption) (by omega) | exact isW.gK (by assumption) (by omega) | exact isW.g1 (by assumption) | exact isW.g2 (by assumption) | exact isW.g3 (by assumption) | exact isI.gx (isW.i0 (by assumption)) | exact isI.gc (isW.i0 (by assumption)) | exact isI.gx (isW.i1 (by assumption)) | exact isI.gc (isW.i1 (by assumption)) | exact isI.gx (isW.i2 (by assumption)) | exact isI.gc (isW.i2 (by assumption)) | exact isI.gx (isW.i3 (by assumption)) | exact isI.gc (isW.i3 (by assumption)) | exact isI.gx (isW.i4 (by assumption)) | exact isI.gc (isW.i4 (by assumption)) | exact isI.gx (isW.i5 (by assumption)) | exact isI.gc (isW.i5 (by assumption)) | exact isR.gx (by assumption) | exact isRd.gx (by assumption) | exact isSp.gx (by assumption) | exact isI.gx (isR.i (by assumption)) | exact isI.gx (isRd.i (by assumption)) | exact isI.gc (isRd.i (by assumption)) | exact isI.gx (isSp.i (by assumption)) | exact isW.gx (isR.w (by assumption)) | exact isW.gF (isR.w (by assumption)) | fail "no such object") (by rfl) ?_
  refine r_iload_n (pc := 4) dX9_faultCount_4 rfl ?_
  refine r_callV1 (pc := 5) dX9_faultCount_5 qX0_gatheredBy kX9_197 vX0_gatheredBy (by first | assumption | exact isI.gx (by assumption) | exact isI.gc (by assumption) | exact isW.gx (by assumption) | exact isW.gF (by assumption) | exact isW.gT (by assumption) (by omega) | exact isW.gS (by assumption) (by omega) | exact isW.gK (by assumption) (by omega) | exact isW.g1 (by assumption) | exact isW.g2 (by assumption) | exact isW.g3 (by assumption) | exact isI.gx (isW.i0 (by assumption)) | exact isI.gc (isW.i0 (by assumption)) | exact isI.gx (isW.i1 (by assumption)) | exact isI.gc (isW.i1 (by assumption)) | exact isI.gx (isW.i2 (by assumption)) | exact isI.gc (isW.i2 (by assumption)) | exact isI.gx (isW.i3 (by assumption)) | exact isI.gc (isW.i3 (by assumption)) | exact isI.gx (isW.i4 (by assumption)) | exact isI.gc (isW.i4 (by assumption)) | exact isI.gx (isW.i5 (by assumption)) | exact isI.gc (isW.i5 (by assumption)) | exact isR.gx (by assumption) | exact isRd.gx (by assumption) | exact isSp.gx (by assumption) | exact isI.gx (isR.i (by assumption)) | exact isI.gx (isRd.i (by assumption)) | exact isI.gc (isRd.i (by assumption)) | exact isI.gx (isSp.i (by assumption)) | exact isW.gx (isR.w (by assumption)) | exact isW.gF (isR.w (by assumption)) | fail "no such object") rfl rfl (Nat.le_of_ble_eq_true rfl) (cq_gatheredByC _ hW hc h11 h12 h13 hcapF h4 hC5 hi) (fun v_5 h_5 q_5 => ?_)
  obtain ⟨rfl, rfl⟩ := q_5
  refine r_aload_n (pc := 8) dX9_faultCount_8 rfl (by first | rfl | exact isRefV_rf _) ?_
  refine r_iload_n (pc := 9) dX9_faultCount_9 rfl ?_
  refine r_callV1 (pc := 10) dX9_faultCount_10 qX9_ownFault kX9_200 vX9_ownFault (by first | assumption | exact isI.gx (by assumption) | exact isI.gc (by assumption) | exact isW.gx (by assumption) | exact isW.gF (by assumption) | exact isW.gT (by assumption) (by omega) | exact isW.gS (by assumption) (by omega) | exact isW.gK (by assumption) (by omega) | exact isW.g1 (by assumption) | exact isW.g2 (by assumption) | exact isW.g3 (by assumption) | exact isI.gx (isW.i0 (by assumption)) | exact isI.gc (isW.i0 (by assumption)) | exact isI.gx (isW.i1 (by assumption)) | exact isI.gc (isW.i1 (by assumption)) | exact isI.gx (isW.i2 (by assumption)) | exact isI.gc (isW.i2 (by assumption)) | exact isI.gx (isW.i3 (by assumption)) | exact isI.gc (isW.i3 (by assumption)) | exact isI.gx (isW.i4 (by assumption)) | exact isI.gc (isW.i4 (by assumption)) | exact isI.gx (isW.i5 (by assumption)) | exact isI.gc (isW.i5 (by assumption)) | exact isR.gx (by assumption) | exact isRd.gx (by assumption) | exact isSp.gx (by assumption) | exact isI.gx (isR.i (by assumption)) | exact isI.gx (isRd.i (by assumption)) | exact isI.gc (isRd.i (by assumption)) | exact isI.gx (isSp.i (by assumption)) | exact isW.gx (isR.w (by assumption)) | exact isW.gF (isR.w (by assumption)) | fail "no such object") rfl rfl (Nat.le_of_ble_eq_true rfl) (cq_ownFault _ hW hc hi) (fun v_10 h_10 q_10 => ?_)
  obtain ⟨rfl, rfl⟩ := q_10
  have ro := ofF_r hc i
  refine rj_if_ne (pc := 13) (tgt := 20) dX9_faultCount_13 (by decide) (by first | exact b01_r | exact bz_r | omega | (constructor <;> omega) | apply_assumption | (apply atF_r; assumption) | fail "no range") (fun c_13 => ?_) (fun c_13 => ?_)
  · try simp only [b01_0, bz_0, Classical.not_not] at c_13
    refine rj_iconst (pc := 20) dX9_faultCount_20 ?_
    refine rj_iadd (pc := 21) dX9_faultCount_21 ?_
    refine r_ireturn (pc := 22) .int dX9_faultCount_22 rfl (by first | rfl | assumption) ?_
    first | exact ⟨by unfold fcF; rw [if_pos (by assumption)], rfl⟩ | exact ⟨by unfold fcF; rw [if_neg (by assumption)], rfl⟩
  · try simp only [b01_0, bz_0, Classical.not_not] at c_13
    refine rj_iconst (pc := 16) dX9_faultCount_16 ?_
    refine r_goto (pc := 17) (tgt := 21) dX9_faultCount_17 (by decide) ?_
    refine rj_iadd (pc := 21) dX9_faultCount_21 ?_
    refine r_ireturn (pc := 22) .int dX9_faultCount_22 rfl (by first | rfl | assumption) ?_
    first | exact ⟨by unfold fcF; rw [if_pos (by assumption)], rfl⟩ | exact ⟨by unfold fcF; rw [if_neg (by assumption)], rfl⟩
def fnF (c : Nat → Int) (f g : Nat → Int) (F : Nat) (i k : Int) : Int := if ¬ ofF c i = 0 ∧ k = 0 then ofF c i else atF 90 (F : Int) g (pwF c f F i (if ofF c i = 0 then k else k - 1))
def fgF (c : Nat → Int) (f g : Nat → Int) (F : Nat) (i k : Int) : Int := if ¬ ofF c i = 0 ∧ k = 0 then -1 else if pwF c f F i (if ofF c i = 0 then k else k - 1) < 0 then -1 else atF 90 (F : Int) g (pwF c f F i (if ofF c i = 0 then k else k - 1))
set_option maxHeartbeats 4000000 in
set_option maxRecDepth 100000 in
theorem cq_faultNumber {G : mG} {l : Launch} (d : Nat) {h : mH} {w : Nat} {c : Nat → Int} {C : Nat → Nat → Int} {nm : Nat → Int64} {g : Nat → Option Nat} (hW : isW h w c C nm g) (hc : ∀ q, InR (c q)) {F : Nat} (h11 : c 11 = (F : Int)) (h12 : c 12 = (F : Int)) (h13 : c 13 = (F : Int)) (hcapF : F ≤ 90) (h4 : 0 ≤ c 4 ∧ c 4 ≤ (F : Int)) (hC5 : ∀ q, InR (C 5 q)) {i : Int} (hi : InR i) {k : Int} (hk : InR k) (hk0 : 0 ≤ k) : RUNM G l (d + 3) mX9_faultNumber [.ref w, .int (J i), .int (J k)] h (fun v h' => v = some (.int (J (fnF c (C 5) (C 3) F i k))) ∧ h' = h) := by
  refine RUNM.of (by decide +kernel) (Nat.le_of_ble_eq_true rfl) ?_
  refine r_aload_n (pc := 0) dX9_faultNumber_0 rfl (by first | rfl | exact isRefV_rf _) ?_
  refine r_iload_n (pc := 1) dX9_faultNumber_1 rfl ?_
  refine r_callV1 (pc := 2) dX9_faultNumber_2 qX9_ownFault kX9_200 vX9_ownFault (by first | assumption | exact isI.gx (by assumption) | exact isI.gc (by assumption) | exact isW.gx (by assumption) | exact isW.gF (by assumption) | exact isW.gT (by assumption) (by omega) | exact isW.gS (by assumption) (by omega) | exact isW.gK (by assumption) (by omega) | exact isW.g1 (by assumption) | exact isW.g2 (by assumption) | exact isW.g3 (by assumption) | exact isI.gx (isW.i0 (by assumption)) | exact isI.gc (isW.i0 (by assumption)) | exact isI.gx (isW.i1 (by assumption)) | exact isI.gc (isW.i1 (by assumption)) | exact isI.gx (isW.i2 (by assumption)) | exact isI.gc (isW.i2 (by assumption)) | exact isI.gx (isW.i3 (by assumption)) | exact isI.gc (isW.i3 (by assumption)) | exact isI.gx (isW.i4 (by assumption)) | exact isI.gc (isW.i4 (by assumption)) | exact isI.gx (isW.i5 (by assumption)) | exact isI.gc (isW.i5 (by assumption)) | exact isR.gx (by assumption) | exact isRd.gx (by assumption) | exact isSp.gx (by assumption) | exact isI.gx (isR.i (by assumption)) | exact isI.gx (isRd.i (by assumption)) | exact isI.gc (isRd.i (by assumption)) | exact isI.gx (isSp.i (by assumption)) | exact isW.gx (isR.w (by assumption)) | exact isW.gF (isR.w (by assumption)) | fail "no such object") rfl rfl (Nat.le_of_ble_eq_true rfl) (cq_ownFault _ hW hc hi) (fun v_2 h_2 q_2 => ?_)
  obtain ⟨rfl, rfl⟩ := q_2
  have ro := ofF_r hc i
  refine r_istore_n (pc := 5) dX9_faultNumber_5 (Nat.le_of_ble_eq_true rfl) ?_
  dsimp only [lsSt, List.set, mLs, mEnt]
  refine r_iload_n (pc := 6) dX9_faultNumber_6 rfl ?_
  refine rj_if_eq (pc := 7) (tgt := 16) dX9_faultNumber_7 (by decide) (by first | exact b01_r | exact bz_r | omega | (constructor <;> omega) | apply_assumption | (apply atF_r; assumption) | fail "no range") (fun c_7 => ?_) (fun c_7 => ?_)
  · try simp only [b01_0, bz_0, Classical.not_not] at c_7
    refine r_aload_n (pc := 16) dX9_faultNumber_16 rfl (by first | rfl | exact isRefV_rf _) ?_
    refine r_getf (pc := 17) dX9_faultNumber_17 fX9_47 (by first | assumption | exact isI.gx (by assumption) | exact isI.gc (by assumption) | exact isW.gx (by assumption) | exact isW.gF (by assumption) | exact isW.gT (by assumption) (by omega) | exact isW.gS (by assumption) (by omega) | exact isW.gK (by assumption) (by omega) | exact isW.g1 (by assumption) | exact isW.g2 (by assumption) | exact isW.g3 (by assumption) | exact isI.gx (isW.i0 (by assumption)) | exact isI.gc (isW.i0 (by assumption)) | exact isI.gx (isW.i1 (by assumption)) | exact isI.gc (isW.i1 (by assumption)) | exact isI.gx (isW.i2 (by assumption)) | exact isI.gc (isW.i2 (by assumption)) | exact isI.gx (isW.i3 (by assumption)) | exact isI.gc (isW.i3 (by assumption)) | exact isI.gx (isW.i4 (by assumption)) | exact isI.gc (isW.i4 (by assumption)) | exact isI.gx (isW.i5 (by assumption)) | exact isI.gc (isW.i5 (by assumption)) | exact isR.gx (by assumption) | exact isRd.gx (by assumption) | exact isSp.gx (by assumption) | exact isI.gx (isR.i (by assumption)) | exact isI.gx (isRd.i (by assumption)) | exact isI.gc (isRd.i (by assumption)) | exact isI.gx (isSp.i (by assumption)) | exact isW.gx (isR.w (by assumption)) | exact isW.gF (isR.w (by assumption)) | fail "no such object") (by rfl) ?_
    refine r_getf (pc := 20) dX9_faultNumber_20 fX9_203 (by first | assumption | exact isI.gx (by assumption) | exact isI.gc (by assumption) | exact isW.gx (by assumption) | exact isW.gF (by assumption) | exact isW.gT (by assumption) (by omega) | exact isW.gS (by assumption) (by omega) | exact isW.gK (by assumption) (by omega) | exact isW.g1 (by assumption) | exact isW.g2 (by assumption) | exact isW.g3 (by assumption) | exact isI.gx (isW.i0 (by assumption)) | exact isI.gc (isW.i0 (by assumption)) | exact isI.gx (isW.i1 (by assumption)) | exact isI.gc (isW.i1 (by assumption)) | exact isI.gx (isW.i2 (by assumption)) | exact isI.gc (isW.i2 (by assumption)) | exact isI.gx (isW.i3 (by assumption)) | exact isI.gc (isW.i3 (by assumption)) | exact isI.gx (isW.i4 (by assumption)) | exact isI.gc (isW.i4 (by assumption)) | exact isI.gx (isW.i5 (by assumption)) | exact isI.gc (isW.i5 (by assumption)) | exact isR.gx (by assumption) | exact isRd.gx (by assumption) | exact isSp.gx (by assumption) | exact isI.gx (isR.i (by assumption)) | exact isI.gx (isRd.i (by assumption)) | exact isI.gc (isRd.i (by assumption)) | exact isI.gx (isSp.i (by assumption)) | exact isW.gx (isR.w (by assumption)) | exact isW.gF (isR.w (by assumption)) | fail "no such object") (by rfl) ?_
    refine r_aload_n (pc := 23) dX9_faultNumber_23 rfl (by first | rfl | exact isRefV_rf _) ?_
    refine r_getf (pc := 24) dX9_faultNumber_24 fX9_47 (by first | assumption | exact isI.gx (by assumption) | exact isI.gc (by assumption) | exact isW.gx (by assumption) | exact isW.gF (by assumption) | exact isW.gT (by assumption) (by omega) | exact isW.gS (by assumption) (by omega) | exact isW.gK (by assumption) (by omega) | exact isW.g1 (by assumption) | exact isW.g2 (by assumption) | exact isW.g3 (by assumption) | exact isI.gx (isW.i0 (by assumption)) | exact isI.gc (isW.i0 (by assumption)) | exact isI.gx (isW.i1 (by assumption)) | exact isI.gc (isW.i1 (by assumption)) | exact isI.gx (isW.i2 (by assumption)) | exact isI.gc (isW.i2 (by assumption)) | exact isI.gx (isW.i3 (by assumption)) | exact isI.gc (isW.i3 (by assumption)) | exact isI.gx (isW.i4 (by assumption)) | exact isI.gc (isW.i4 (by assumption)) | exact isI.gx (isW.i5 (by assumption)) | exact isI.gc (isW.i5 (by assumption)) | exact isR.gx (by assumption) | exact isRd.gx (by assumption) | exact isSp.gx (by assumption) | exact isI.gx (isR.i (by assumption)) | exact isI.gx (isRd.i (by assumption)) | exact isI.gc (isRd.i (by assumption)) | exact isI.gx (isSp.i (by assumption)) | exact isW.gx (isR.w (by assumption)) | exact isW.gF (isR.w (by assumption)) | fail "no such object") (by rfl) ?_
    refine r_iload_n (pc := 27) dX9_faultNumber_27 rfl ?_
    refine r_iload_n (pc := 28) dX9_faultNumber_28 rfl ?_
    refine rj_if_ne (pc := 29) (tgt := 36) dX9_faultNumber_29 (by decide) (by first | exact b01_r | exact bz_r | omega | (constructor <;> omega) | apply_assumption | (apply atF_r; assumption) | fail "no range") (fun c_29 => ?_) (fun c_29 => ?_)
    · try simp only [b01_0, bz_0, Classical.not_not] at c_29
      refine r_iload_n (pc := 36) dX9_faultNumber_36 rfl ?_
      refine rj_iconst (pc := 37) dX9_faultNumber_37 ?_
      refine rj_isub (pc := 38) dX9_faultNumber_38 ?_
      refine r_callV2 (pc := 39) dX9_faultNumber_39 qX0_placeOf kX9_206 vX0_placeOf (by first | assumption | exact isI.gx (by assumption) | exact isI.gc (by assumption) | exact isW.gx (by assumption) | exact isW.gF (by assumption) | exact isW.gT (by assumption) (by omega) | exact isW.gS (by assumption) (by omega) | exact isW.gK (by assumption) (by omega) | exact isW.g1 (by assumption) | exact isW.g2 (by assumption) | exact isW.g3 (by assumption) | exact isI.gx (isW.i0 (by assumption)) | exact isI.gc (isW.i0 (by assumption)) | exact isI.gx (isW.i1 (by assumption)) | exact isI.gc (isW.i1 (by assumption)) | exact isI.gx (isW.i2 (by assumption)) | exact isI.gc (isW.i2 (by assumption)) | exact isI.gx (isW.i3 (by assumption)) | exact isI.gc (isW.i3 (by assumption)) | exact isI.gx (isW.i4 (by assumption)) | exact isI.gc (isW.i4 (by assumption)) | exact isI.gx (isW.i5 (by assumption)) | exact isI.gc (isW.i5 (by assumption)) | exact isR.gx (by assumption) | exact isRd.gx (by assumption) | exact isSp.gx (by assumption) | exact isI.gx (isR.i (by assumption)) | exact isI.gx (isRd.i (by assumption)) | exact isI.gc (isRd.i (by assumption)) | exact isI.gx (isSp.i (by assumption)) | exact isW.gx (isR.w (by assumption)) | exact isW.gF (isR.w (by assumption)) | fail "no such object") rfl rfl (Nat.le_of_ble_eq_true rfl) (cq_placeOf _ hW hc h11 h12 h13 hcapF h4 hC5 hi (k := k - 1) ⟨by omega, by omega⟩) (fun v_39 h_39 q_39 => ?_)
      obtain ⟨rfl, rfl⟩ := q_39
      have rp := pwF_r (c := c) (f := C 5) (F := F) (i := i) (k := k - 1)
      have rp2 : b0F c i ≤ F := by unfold b0F; split <;> omega
      have rp3 := rp.2 rp2
      have rp1 := rp.1
      clear rp
      refine r_callV1 (pc := 42) dX9_faultNumber_42 qX1_at kX9_147 vX1_at (by first | assumption | exact isI.gx (by assumption) | exact isI.gc (by assumption) | exact isW.gx (by assumption) | exact isW.gF (by assumption) | exact isW.gT (by assumption) (by omega) | exact isW.gS (by assumption) (by omega) | exact isW.gK (by assumption) (by omega) | exact isW.g1 (by assumption) | exact isW.g2 (by assumption) | exact isW.g3 (by assumption) | exact isI.gx (isW.i0 (by assumption)) | exact isI.gc (isW.i0 (by assumption)) | exact isI.gx (isW.i1 (by assumption)) | exact isI.gc (isW.i1 (by assumption)) | exact isI.gx (isW.i2 (by assumption)) | exact isI.gc (isW.i2 (by assumption)) | exact isI.gx (isW.i3 (by assumption)) | exact isI.gc (isW.i3 (by assumption)) | exact isI.gx (isW.i4 (by assumption)) | exact isI.gc (isW.i4 (by assumption)) | exact isI.gx (isW.i5 (by assumption)) | exact isI.gc (isW.i5 (by assumption)) | exact isR.gx (by assumption) | exact isRd.gx (by assumption) | exact isSp.gx (by assumption) | exact isI.gx (isR.i (by assumption)) | exact isI.gx (isRd.i (by assumption)) | exact isI.gc (isRd.i (by assumption)) | exact isI.gx (isSp.i (by assumption)) | exact isW.gx (isR.w (by assumption)) | exact isW.gF (isR.w (by assumption)) | fail "no such object") rfl rfl (Nat.le_of_ble_eq_true rfl) (ci_at _ hW.i3 (by decide) (hc _) ⟨by omega, by omega⟩) (fun v_42 h_42 q_42 => ?_)
      obtain ⟨rfl, rfl⟩ := q_42
      refine r_ireturn (pc := 45) .int dX9_faultNumber_45 rfl (by first | rfl | assumption) ?_
      first | (exfalso; omega) | exact ⟨by unfold fnF; rw [if_pos ⟨by assumption, by assumption⟩], rfl⟩ | exact ⟨by unfold fnF; rw [if_neg (fun g => by omega), if_pos (by assumption), ← h11], rfl⟩ | exact ⟨by unfold fnF; rw [if_neg (fun g => by omega), if_neg (by assumption), ← h11], rfl⟩
    · try simp only [b01_0, bz_0, Classical.not_not] at c_29
      refine r_iload_n (pc := 32) dX9_faultNumber_32 rfl ?_
      refine r_goto (pc := 33) (tgt := 39) dX9_faultNumber_33 (by decide) ?_
      refine r_callV2 (pc := 39) dX9_faultNumber_39 qX0_placeOf kX9_206 vX0_placeOf (by first | assumption | exact isI.gx (by assumption) | exact isI.gc (by assumption) | exact isW.gx (by assumption) | exact isW.gF (by assumption) | exact isW.gT (by assumption) (by omega) | exact isW.gS (by assumption) (by omega) | exact isW.gK (by assumption) (by omega) | exact isW.g1 (by assumption) | exact isW.g2 (by assumption) | exact isW.g3 (by assumption) | exact isI.gx (isW.i0 (by assumption)) | exact isI.gc (isW.i0 (by assumption)) | exact isI.gx (isW.i1 (by assumption)) | exact isI.gc (isW.i1 (by assumption)) | exact isI.gx (isW.i2 (by assumption)) | exact isI.gc (isW.i2 (by assumption)) | exact isI.gx (isW.i3 (by assumption)) | exact isI.gc (isW.i3 (by assumption)) | exact isI.gx (isW.i4 (by assumption)) | exact isI.gc (isW.i4 (by assumption)) | exact isI.gx (isW.i5 (by assumption)) | exact isI.gc (isW.i5 (by assumption)) | exact isR.gx (by assumption) | exact isRd.gx (by assumption) | exact isSp.gx (by assumption) | exact isI.gx (isR.i (by assumption)) | exact isI.gx (isRd.i (by assumption)) | exact isI.gc (isRd.i (by assumption)) | exact isI.gx (isSp.i (by assumption)) | exact isW.gx (isR.w (by assumption)) | exact isW.gF (isR.w (by assumption)) | fail "no such object") rfl rfl (Nat.le_of_ble_eq_true rfl) (cq_placeOf _ hW hc h11 h12 h13 hcapF h4 hC5 hi (k := k) ⟨by omega, by omega⟩) (fun v_39 h_39 q_39 => ?_)
      obtain ⟨rfl, rfl⟩ := q_39
      have rp := pwF_r (c := c) (f := C 5) (F := F) (i := i) (k := k)
      have rp2 : b0F c i ≤ F := by unfold b0F; split <;> omega
      have rp3 := rp.2 rp2
      have rp1 := rp.1
      clear rp
      refine r_callV1 (pc := 42) dX9_faultNumber_42 qX1_at kX9_147 vX1_at (by first | assumption | exact isI.gx (by assumption) | exact isI.gc (by assumption) | exact isW.gx (by assumption) | exact isW.gF (by assumption) | exact isW.gT (by assumption) (by omega) | exact isW.gS (by assumption) (by omega) | exact isW.gK (by assumption) (by omega) | exact isW.g1 (by assumption) | exact isW.g2 (by assumption) | exact isW.g3 (by assumption) | exact isI.gx (isW.i0 (by assumption)) | exact isI.gc (isW.i0 (by assumption)) | exact isI.gx (isW.i1 (by assumption)) | exact isI.gc (isW.i1 (by assumption)) | exact isI.gx (isW.i2 (by assumption)) | exact isI.gc (isW.i2 (by assumption)) | exact isI.gx (isW.i3 (by assumption)) | exact isI.gc (isW.i3 (by assumption)) | exact isI.gx (isW.i4 (by assumption)) | exact isI.gc (isW.i4 (by assumption)) | exact isI.gx (isW.i5 (by assumption)) | exact isI.gc (isW.i5 (by assumption)) | exact isR.gx (by assumption) | exact isRd.gx (by assumption) | exact isSp.gx (by assumption) | exact isI.gx (isR.i (by assumption)) | exact isI.gx (isRd.i (by assumption)) | exact isI.gc (isRd.i (by assumption)) | exact isI.gx (isSp.i (by assumption)) | exact isW.gx (isR.w (by assumption)) | exact isW.gF (isR.w (by assumption)) | fail "no such object") rfl rfl (Nat.le_of_ble_eq_true rfl) (ci_at _ hW.i3 (by decide) (hc _) ⟨by omega, by omega⟩) (fun v_42 h_42 q_42 => ?_)
      obtain ⟨rfl, rfl⟩ := q_42
      refine r_ireturn (pc := 45) .int dX9_faultNumber_45 rfl (by first | rfl | assumption) ?_
      first | (exfalso; omega) | exact ⟨by unfold fnF; rw [if_pos ⟨by assumption, by assumption⟩], rfl⟩ | exact ⟨by unfold fnF; rw [if_neg (fun g => by omega), if_pos (by assumption), ← h11], rfl⟩ | exact ⟨by unfold fnF; rw [if_neg (fun g => by omega), if_neg (by assumption), ← h11], rfl⟩
  · try simp only [b01_0, bz_0, Classical.not_not] at c_7
    refine r_iload_n (pc := 10) dX9_faultNumber_10 rfl ?_
    refine rj_if_ne (pc := 11) (tgt := 16) dX9_faultNumber_11 (by decide) (by first | exact b01_r | exact bz_r | omega | (constructor <;> omega) | apply_assumption | (apply atF_r; assumption) | fail "no range") (fun c_11 => ?_) (fun c_11 => ?_)
    · try simp only [b01_0, bz_0, Classical.not_not] at c_11
      refine r_aload_n (pc := 16) dX9_faultNumber_16 rfl (by first | rfl | exact isRefV_rf _) ?_
      refine r_getf (pc := 17) dX9_faultNumber_17 fX9_47 (by first | assumption | exact isI.gx (by assumption) | exact isI.gc (by assumption) | exact isW.gx (by assumption) | exact isW.gF (by assumption) | exact isW.gT (by assumption) (by omega) | exact isW.gS (by assumption) (by omega) | exact isW.gK (by assumption) (by omega) | exact isW.g1 (by assumption) | exact isW.g2 (by assumption) | exact isW.g3 (by assumption) | exact isI.gx (isW.i0 (by assumption)) | exact isI.gc (isW.i0 (by assumption)) | exact isI.gx (isW.i1 (by assumption)) | exact isI.gc (isW.i1 (by assumption)) | exact isI.gx (isW.i2 (by assumption)) | exact isI.gc (isW.i2 (by assumption)) | exact isI.gx (isW.i3 (by assumption)) | exact isI.gc (isW.i3 (by assumption)) | exact isI.gx (isW.i4 (by assumption)) | exact isI.gc (isW.i4 (by assumption)) | exact isI.gx (isW.i5 (by assumption)) | exact isI.gc (isW.i5 (by assumption)) | exact isR.gx (by assumption) | exact isRd.gx (by assumption) | exact isSp.gx (by assumption) | exact isI.gx (isR.i (by assumption)) | exact isI.gx (isRd.i (by assumption)) | exact isI.gc (isRd.i (by assumption)) | exact isI.gx (isSp.i (by assumption)) | exact isW.gx (isR.w (by assumption)) | exact isW.gF (isR.w (by assumption)) | fail "no such object") (by rfl) ?_
      refine r_getf (pc := 20) dX9_faultNumber_20 fX9_203 (by first | assumption | exact isI.gx (by assumption) | exact isI.gc (by assumption) | exact isW.gx (by assumption) | exact isW.gF (by assumption) | exact isW.gT (by assumption) (by omega) | exact isW.gS (by assumption) (by omega) | exact isW.gK (by assumption) (by omega) | exact isW.g1 (by assumption) | exact isW.g2 (by assumption) | exact isW.g3 (by assumption) | exact isI.gx (isW.i0 (by assumption)) | exact isI.gc (isW.i0 (by assumption)) | exact isI.gx (isW.i1 (by assumption)) | exact isI.gc (isW.i1 (by assumption)) | exact isI.gx (isW.i2 (by assumption)) | exact isI.gc (isW.i2 (by assumption)) | exact isI.gx (isW.i3 (by assumption)) | exact isI.gc (isW.i3 (by assumption)) | exact isI.gx (isW.i4 (by assumption)) | exact isI.gc (isW.i4 (by assumption)) | exact isI.gx (isW.i5 (by assumption)) | exact isI.gc (isW.i5 (by assumption)) | exact isR.gx (by assumption) | exact isRd.gx (by assumption) | exact isSp.gx (by assumption) | exact isI.gx (isR.i (by assumption)) | exact isI.gx (isRd.i (by assumption)) | exact isI.gc (isRd.i (by assumption)) | exact isI.gx (isSp.i (by assumption)) | exact isW.gx (isR.w (by assumption)) | exact isW.gF (isR.w (by assumption)) | fail "no such object") (by rfl) ?_
      refine r_aload_n (pc := 23) dX9_faultNumber_23 rfl (by first | rfl | exact isRefV_rf _) ?_
      refine r_getf (pc := 24) dX9_faultNumber_24 fX9_47 (by first | assumption | exact isI.gx (by assumption) | exact isI.gc (by assumption) | exact isW.gx (by assumption) | exact isW.gF (by assumption) | exact isW.gT (by assumption) (by omega) | exact isW.gS (by assumption) (by omega) | exact isW.gK (by assumption) (by omega) | exact isW.g1 (by assumption) | exact isW.g2 (by assumption) | exact isW.g3 (by assumption) | exact isI.gx (isW.i0 (by assumption)) | exact isI.gc (isW.i0 (by assumption)) | exact isI.gx (isW.i1 (by assumption)) | exact isI.gc (isW.i1 (by assumption)) | exact isI.gx (isW.i2 (by assumption)) | exact isI.gc (isW.i2 (by assumption)) | exact isI.gx (isW.i3 (by assumption)) | exact isI.gc (isW.i3 (by assumption)) | exact isI.gx (isW.i4 (by assumption)) | exact isI.gc (isW.i4 (by assumption)) | exact isI.gx (isW.i5 (by assumption)) | exact isI.gc (isW.i5 (by assumption)) | exact isR.gx (by assumption) | exact isRd.gx (by assumption) | exact isSp.gx (by assumption) | exact isI.gx (isR.i (by assumption)) | exact isI.gx (isRd.i (by assumption)) | exact isI.gc (isRd.i (by assumption)) | exact isI.gx (isSp.i (by assumption)) | exact isW.gx (isR.w (by assumption)) | exact isW.gF (isR.w (by assumption)) | fail "no such object") (by rfl) ?_
      refine r_iload_n (pc := 27) dX9_faultNumber_27 rfl ?_
      refine r_iload_n (pc := 28) dX9_faultNumber_28 rfl ?_
      refine rj_if_ne (pc := 29) (tgt := 36) dX9_faultNumber_29 (by decide) (by first | exact b01_r | exact bz_r | omega | (constructor <;> omega) | apply_assumption | (apply atF_r; assumption) | fail "no range") (fun c_29 => ?_) (fun c_29 => ?_)
      · try simp only [b01_0, bz_0, Classical.not_not] at c_29
        refine r_iload_n (pc := 36) dX9_faultNumber_36 rfl ?_
        refine rj_iconst (pc := 37) dX9_faultNumber_37 ?_
        refine rj_isub (pc := 38) dX9_faultNumber_38 ?_
        refine r_callV2 (pc := 39) dX9_faultNumber_39 qX0_placeOf kX9_206 vX0_placeOf (by first | assumption | exact isI.gx (by assumption) | exact isI.gc (by assumption) | exact isW.gx (by assumption) | exact isW.gF (by assumption) | exact isW.gT (by assumption) (by omega) | exact isW.gS (by assumption) (by omega) | exact isW.gK (by assumption) (by omega) | exact isW.g1 (by assumption) | exact isW.g2 (by assumption) | exact isW.g3 (by assumption) | exact isI.gx (isW.i0 (by assumption)) | exact isI.gc (isW.i0 (by assumption)) | exact isI.gx (isW.i1 (by assumption)) | exact isI.gc (isW.i1 (by assumption)) | exact isI.gx (isW.i2 (by assumption)) | exact isI.gc (isW.i2 (by assumption)) | exact isI.gx (isW.i3 (by assumption)) | exact isI.gc (isW.i3 (by assumption)) | exact isI.gx (isW.i4 (by assumption)) | exact isI.gc (isW.i4 (by assumption)) | exact isI.gx (isW.i5 (by assumption)) | exact isI.gc (isW.i5 (by assumption)) | exact isR.gx (by assumption) | exact isRd.gx (by assumption) | exact isSp.gx (by assumption) | exact isI.gx (isR.i (by assumption)) | exact isI.gx (isRd.i (by assumption)) | exact isI.gc (isRd.i (by assumption)) | exact isI.gx (isSp.i (by assumption)) | exact isW.gx (isR.w (by assumption)) | exact isW.gF (isR.w (by assumption)) | fail "no such object") rfl rfl (Nat.le_of_ble_eq_true rfl) (cq_placeOf _ hW hc h11 h12 h13 hcapF h4 hC5 hi (k := k - 1) ⟨by omega, by omega⟩) (fun v_39 h_39 q_39 => ?_)
        obtain ⟨rfl, rfl⟩ := q_39
        have rp := pwF_r (c := c) (f := C 5) (F := F) (i := i) (k := k - 1)
        have rp2 : b0F c i ≤ F := by unfold b0F; split <;> omega
        have rp3 := rp.2 rp2
        have rp1 := rp.1
        clear rp
        refine r_callV1 (pc := 42) dX9_faultNumber_42 qX1_at kX9_147 vX1_at (by first | assumption | exact isI.gx (by assumption) | exact isI.gc (by assumption) | exact isW.gx (by assumption) | exact isW.gF (by assumption) | exact isW.gT (by assumption) (by omega) | exact isW.gS (by assumption) (by omega) | exact isW.gK (by assumption) (by omega) | exact isW.g1 (by assumption) | exact isW.g2 (by assumption) | exact isW.g3 (by assumption) | exact isI.gx (isW.i0 (by assumption)) | exact isI.gc (isW.i0 (by assumption)) | exact isI.gx (isW.i1 (by assumption)) | exact isI.gc (isW.i1 (by assumption)) | exact isI.gx (isW.i2 (by assumption)) | exact isI.gc (isW.i2 (by assumption)) | exact isI.gx (isW.i3 (by assumption)) | exact isI.gc (isW.i3 (by assumption)) | exact isI.gx (isW.i4 (by assumption)) | exact isI.gc (isW.i4 (by assumption)) | exact isI.gx (isW.i5 (by assumption)) | exact isI.gc (isW.i5 (by assumption)) | exact isR.gx (by assumption) | exact isRd.gx (by assumption) | exact isSp.gx (by assumption) | exact isI.gx (isR.i (by assumption)) | exact isI.gx (isRd.i (by assumption)) | exact isI.gc (isRd.i (by assumption)) | exact isI.gx (isSp.i (by assumption)) | exact isW.gx (isR.w (by assumption)) | exact isW.gF (isR.w (by assumption)) | fail "no such object") rfl rfl (Nat.le_of_ble_eq_true rfl) (ci_at _ hW.i3 (by decide) (hc _) ⟨by omega, by omega⟩) (fun v_42 h_42 q_42 => ?_)
        obtain ⟨rfl, rfl⟩ := q_42
        refine r_ireturn (pc := 45) .int dX9_faultNumber_45 rfl (by first | rfl | assumption) ?_
        first | (exfalso; omega) | exact ⟨by unfold fnF; rw [if_pos ⟨by assumption, by assumption⟩], rfl⟩ | exact ⟨by unfold fnF; rw [if_neg (fun g => by omega), if_pos (by assumption), ← h11], rfl⟩ | exact ⟨by unfold fnF; rw [if_neg (fun g => by omega), if_neg (by assumption), ← h11], rfl⟩
      · try simp only [b01_0, bz_0, Classical.not_not] at c_29
        refine r_iload_n (pc := 32) dX9_faultNumber_32 rfl ?_
        refine r_goto (pc := 33) (tgt := 39) dX9_faultNumber_33 (by decide) ?_
        refine r_callV2 (pc := 39) dX9_faultNumber_39 qX0_placeOf kX9_206 vX0_placeOf (by first | assumption | exact isI.gx (by assumption) | exact isI.gc (by assumption) | exact isW.gx (by assumption) | exact isW.gF (by assumption) | exact isW.gT (by assumption) (by omega) | exact isW.gS (by assumption) (by omega) | exact isW.gK (by assumption) (by omega) | exact isW.g1 (by assumption) | exact isW.g2 (by assumption) | exact isW.g3 (by assumption) | exact isI.gx (isW.i0 (by assumption)) | exact isI.gc (isW.i0 (by assumption)) | exact isI.gx (isW.i1 (by assumption)) | exact isI.gc (isW.i1 (by assumption)) | exact isI.gx (isW.i2 (by assumption)) | exact isI.gc (isW.i2 (by assumption)) | exact isI.gx (isW.i3 (by assumption)) | exact isI.gc (isW.i3 (by assumption)) | exact isI.gx (isW.i4 (by assumption)) | exact isI.gc (isW.i4 (by assumption)) | exact isI.gx (isW.i5 (by assumption)) | exact isI.gc (isW.i5 (by assumption)) | exact isR.gx (by assumption) | exact isRd.gx (by assumption) | exact isSp.gx (by assumption) | exact isI.gx (isR.i (by assumption)) | exact isI.gx (isRd.i (by assumption)) | exact isI.gc (isRd.i (by assumption)) | exact isI.gx (isSp.i (by assumption)) | exact isW.gx (isR.w (by assumption)) | exact isW.gF (isR.w (by assumption)) | fail "no such object") rfl rfl (Nat.le_of_ble_eq_true rfl) (cq_placeOf _ hW hc h11 h12 h13 hcapF h4 hC5 hi (k := k) ⟨by omega, by omega⟩) (fun v_39 h_39 q_39 => ?_)
        obtain ⟨rfl, rfl⟩ := q_39
        have rp := pwF_r (c := c) (f := C 5) (F := F) (i := i) (k := k)
        have rp2 : b0F c i ≤ F := by unfold b0F; split <;> omega
        have rp3 := rp.2 rp2
        have rp1 := rp.1
        clear rp
        refine r_callV1 (pc := 42) dX9_faultNumber_42 qX1_at kX9_147 vX1_at (by first | assumption | exact isI.gx (by assumption) | exact isI.gc (by assumption) | exact isW.gx (by assumption) | exact isW.gF (by assumption) | exact isW.gT (by assumption) (by omega) | exact isW.gS (by assumption) (by omega) | exact isW.gK (by assumption) (by omega) | exact isW.g1 (by assumption) | exact isW.g2 (by assumption) | exact isW.g3 (by assumption) | exact isI.gx (isW.i0 (by assumption)) | exact isI.gc (isW.i0 (by assumption)) | exact isI.gx (isW.i1 (by assumption)) | exact isI.gc (isW.i1 (by assumption)) | exact isI.gx (isW.i2 (by assumption)) | exact isI.gc (isW.i2 (by assumption)) | exact isI.gx (isW.i3 (by assumption)) | exact isI.gc (isW.i3 (by assumption)) | exact isI.gx (isW.i4 (by assumption)) | exact isI.gc (isW.i4 (by assumption)) | exact isI.gx (isW.i5 (by assumption)) | exact isI.gc (isW.i5 (by assumption)) | exact isR.gx (by assumption) | exact isRd.gx (by assumption) | exact isSp.gx (by assumption) | exact isI.gx (isR.i (by assumption)) | exact isI.gx (isRd.i (by assumption)) | exact isI.gc (isRd.i (by assumption)) | exact isI.gx (isSp.i (by assumption)) | exact isW.gx (isR.w (by assumption)) | exact isW.gF (isR.w (by assumption)) | fail "no such object") rfl rfl (Nat.le_of_ble_eq_true rfl) (ci_at _ hW.i3 (by decide) (hc _) ⟨by omega, by omega⟩) (fun v_42 h_42 q_42 => ?_)
        obtain ⟨rfl, rfl⟩ := q_42
        refine r_ireturn (pc := 45) .int dX9_faultNumber_45 rfl (by first | rfl | assumption) ?_
        first | (exfalso; omega) | exact ⟨by unfold fnF; rw [if_pos ⟨by assumption, by assumption⟩], rfl⟩ | exact ⟨by unfold fnF; rw [if_neg (fun g => by omega), if_pos (by assumption), ← h11], rfl⟩ | exact ⟨by unfold fnF; rw [if_neg (fun g => by omega), if_neg (by assumption), ← h11], rfl⟩
    · try simp only [b01_0, bz_0, Classical.not_not] at c_11
      refine r_iload_n (pc := 14) dX9_faultNumber_14 rfl ?_
      refine r_ireturn (pc := 15) .int dX9_faultNumber_15 rfl (by first | rfl | assumption) ?_
      first | (exfalso; omega) | exact ⟨by unfold fnF; rw [if_pos ⟨by assumption, by assumption⟩], rfl⟩ | exact ⟨by unfold fnF; rw [if_neg (fun g => by omega), if_pos (by assumption), ← h11], rfl⟩ | exact ⟨by unfold fnF; rw [if_neg (fun g => by omega), if_neg (by assumption), ← h11], rfl⟩
set_option maxHeartbeats 4000000 in
set_option maxRecDepth 100000 in
theorem cq_faultThing {G : mG} {l : Launch} (d : Nat) {h : mH} {w : Nat} {c : Nat → Int} {C : Nat → Nat → Int} {nm : Nat → Int64} {g : Nat → Option Nat} (hW : isW h w c C nm g) (hc : ∀ q, InR (c q)) {F : Nat} (h11 : c 11 = (F : Int)) (h12 : c 12 = (F : Int)) (h13 : c 13 = (F : Int)) (hcapF : F ≤ 90) (h4 : 0 ≤ c 4 ∧ c 4 ≤ (F : Int)) (hC5 : ∀ q, InR (C 5 q)) {i : Int} (hi : InR i) {k : Int} (hk : InR k) (hk0 : 0 ≤ k) : RUNM G l (d + 3) mX9_faultThing [.ref w, .int (J i), .int (J k)] h (fun v h' => v = some (.int (J (fgF c (C 5) (C 4) F i k))) ∧ h' = h) := by
  refine RUNM.of (by decide +kernel) (Nat.le_of_ble_eq_true rfl) ?_
  refine r_aload_n (pc := 0) dX9_faultThing_0 rfl (by first | rfl | exact isRefV_rf _) ?_
  refine r_iload_n (pc := 1) dX9_faultThing_1 rfl ?_
  refine r_callV1 (pc := 2) dX9_faultThing_2 qX9_ownFault kX9_200 vX9_ownFault (by first | assumption | exact isI.gx (by assumption) | exact isI.gc (by assumption) | exact isW.gx (by assumption) | exact isW.gF (by assumption) | exact isW.gT (by assumption) (by omega) | exact isW.gS (by assumption) (by omega) | exact isW.gK (by assumption) (by omega) | exact isW.g1 (by assumption) | exact isW.g2 (by assumption) | exact isW.g3 (by assumption) | exact isI.gx (isW.i0 (by assumption)) | exact isI.gc (isW.i0 (by assumption)) | exact isI.gx (isW.i1 (by assumption)) | exact isI.gc (isW.i1 (by assumption)) | exact isI.gx (isW.i2 (by assumption)) | exact isI.gc (isW.i2 (by assumption)) | exact isI.gx (isW.i3 (by assumption)) | exact isI.gc (isW.i3 (by assumption)) | exact isI.gx (isW.i4 (by assumption)) | exact isI.gc (isW.i4 (by assumption)) | exact isI.gx (isW.i5 (by assumption)) | exact isI.gc (isW.i5 (by assumption)) | exact isR.gx (by assumption) | exact isRd.gx (by assumption) | exact isSp.gx (by assumption) | exact isI.gx (isR.i (by assumption)) | exact isI.gx (isRd.i (by assumption)) | exact isI.gc (isRd.i (by assumption)) | exact isI.gx (isSp.i (by assumption)) | exact isW.gx (isR.w (by assumption)) | exact isW.gF (isR.w (by assumption)) | fail "no such object") rfl rfl (Nat.le_of_ble_eq_true rfl) (cq_ownFault _ hW hc hi) (fun v_2 h_2 q_2 => ?_)
  obtain ⟨rfl, rfl⟩ := q_2
  have ro := ofF_r hc i
  refine r_istore_n (pc := 5) dX9_faultThing_5 (Nat.le_of_ble_eq_true rfl) ?_
  dsimp only [lsSt, List.set, mLs, mEnt]
  refine r_iload_n (pc := 6) dX9_faultThing_6 rfl ?_
  refine rj_if_eq (pc := 7) (tgt := 18) dX9_faultThing_7 (by decide) (by first | exact b01_r | exact bz_r | omega | (constructor <;> omega) | apply_assumption | (apply atF_r; assumption) | fail "no range") (fun c_7 => ?_) (fun c_7 => ?_)
  · try simp only [b01_0, bz_0, Classical.not_not] at c_7
    refine r_aload_n (pc := 18) dX9_faultThing_18 rfl (by first | rfl | exact isRefV_rf _) ?_
    refine r_getf (pc := 19) dX9_faultThing_19 fX9_47 (by first | assumption | exact isI.gx (by assumption) | exact isI.gc (by assumption) | exact isW.gx (by assumption) | exact isW.gF (by assumption) | exact isW.gT (by assumption) (by omega) | exact isW.gS (by assumption) (by omega) | exact isW.gK (by assumption) (by omega) | exact isW.g1 (by assumption) | exact isW.g2 (by assumption) | exact isW.g3 (by assumption) | exact isI.gx (isW.i0 (by assumption)) | exact isI.gc (isW.i0 (by assumption)) | exact isI.gx (isW.i1 (by assumption)) | exact isI.gc (isW.i1 (by assumption)) | exact isI.gx (isW.i2 (by assumption)) | exact isI.gc (isW.i2 (by assumption)) | exact isI.gx (isW.i3 (by assumption)) | exact isI.gc (isW.i3 (by assumption)) | exact isI.gx (isW.i4 (by assumption)) | exact isI.gc (isW.i4 (by assumption)) | exact isI.gx (isW.i5 (by assumption)) | exact isI.gc (isW.i5 (by assumption)) | exact isR.gx (by assumption) | exact isRd.gx (by assumption) | exact isSp.gx (by assumption) | exact isI.gx (isR.i (by assumption)) | exact isI.gx (isRd.i (by assumption)) | exact isI.gc (isRd.i (by assumption)) | exact isI.gx (isSp.i (by assumption)) | exact isW.gx (isR.w (by assumption)) | exact isW.gF (isR.w (by assumption)) | fail "no such object") (by rfl) ?_
    refine r_iload_n (pc := 22) dX9_faultThing_22 rfl ?_
    refine r_iload_n (pc := 23) dX9_faultThing_23 rfl ?_
    refine rj_if_ne (pc := 24) (tgt := 31) dX9_faultThing_24 (by decide) (by first | exact b01_r | exact bz_r | omega | (constructor <;> omega) | apply_assumption | (apply atF_r; assumption) | fail "no range") (fun c_24 => ?_) (fun c_24 => ?_)
    · try simp only [b01_0, bz_0, Classical.not_not] at c_24
      refine r_iload_n (pc := 31) dX9_faultThing_31 rfl ?_
      refine rj_iconst (pc := 32) dX9_faultThing_32 ?_
      refine rj_isub (pc := 33) dX9_faultThing_33 ?_
      refine r_callV2 (pc := 34) dX9_faultThing_34 qX0_placeOf kX9_206 vX0_placeOf (by first | assumption | exact isI.gx (by assumption) | exact isI.gc (by assumption) | exact isW.gx (by assumption) | exact isW.gF (by assumption) | exact isW.gT (by assumption) (by omega) | exact isW.gS (by assumption) (by omega) | exact isW.gK (by assumption) (by omega) | exact isW.g1 (by assumption) | exact isW.g2 (by assumption) | exact isW.g3 (by assumption) | exact isI.gx (isW.i0 (by assumption)) | exact isI.gc (isW.i0 (by assumption)) | exact isI.gx (isW.i1 (by assumption)) | exact isI.gc (isW.i1 (by assumption)) | exact isI.gx (isW.i2 (by assumption)) | exact isI.gc (isW.i2 (by assumption)) | exact isI.gx (isW.i3 (by assumption)) | exact isI.gc (isW.i3 (by assumption)) | exact isI.gx (isW.i4 (by assumption)) | exact isI.gc (isW.i4 (by assumption)) | exact isI.gx (isW.i5 (by assumption)) | exact isI.gc (isW.i5 (by assumption)) | exact isR.gx (by assumption) | exact isRd.gx (by assumption) | exact isSp.gx (by assumption) | exact isI.gx (isR.i (by assumption)) | exact isI.gx (isRd.i (by assumption)) | exact isI.gc (isRd.i (by assumption)) | exact isI.gx (isSp.i (by assumption)) | exact isW.gx (isR.w (by assumption)) | exact isW.gF (isR.w (by assumption)) | fail "no such object") rfl rfl (Nat.le_of_ble_eq_true rfl) (cq_placeOf _ hW hc h11 h12 h13 hcapF h4 hC5 hi (k := k - 1) ⟨by omega, by omega⟩) (fun v_34 h_34 q_34 => ?_)
      obtain ⟨rfl, rfl⟩ := q_34
      have rp := pwF_r (c := c) (f := C 5) (F := F) (i := i) (k := k - 1)
      have rp2 : b0F c i ≤ F := by unfold b0F; split <;> omega
      have rp3 := rp.2 rp2
      have rp1 := rp.1
      clear rp
      refine r_istore (pc := 37) dX9_faultThing_37 (Nat.le_of_ble_eq_true rfl) ?_
      dsimp only [lsSt, List.set, mLs, mEnt]
      refine r_iload (pc := 39) dX9_faultThing_39 rfl ?_
      refine rj_if_ge (pc := 41) (tgt := 48) dX9_faultThing_41 (by decide) (by first | exact b01_r | exact bz_r | omega | (constructor <;> omega) | apply_assumption | (apply atF_r; assumption) | fail "no range") (fun c_41 => ?_) (fun c_41 => ?_)
      · refine r_aload_n (pc := 48) dX9_faultThing_48 rfl (by first | rfl | exact isRefV_rf _) ?_
        refine r_getf (pc := 49) dX9_faultThing_49 fX9_47 (by first | assumption | exact isI.gx (by assumption) | exact isI.gc (by assumption) | exact isW.gx (by assumption) | exact isW.gF (by assumption) | exact isW.gT (by assumption) (by omega) | exact isW.gS (by assumption) (by omega) | exact isW.gK (by assumption) (by omega) | exact isW.g1 (by assumption) | exact isW.g2 (by assumption) | exact isW.g3 (by assumption) | exact isI.gx (isW.i0 (by assumption)) | exact isI.gc (isW.i0 (by assumption)) | exact isI.gx (isW.i1 (by assumption)) | exact isI.gc (isW.i1 (by assumption)) | exact isI.gx (isW.i2 (by assumption)) | exact isI.gc (isW.i2 (by assumption)) | exact isI.gx (isW.i3 (by assumption)) | exact isI.gc (isW.i3 (by assumption)) | exact isI.gx (isW.i4 (by assumption)) | exact isI.gc (isW.i4 (by assumption)) | exact isI.gx (isW.i5 (by assumption)) | exact isI.gc (isW.i5 (by assumption)) | exact isR.gx (by assumption) | exact isRd.gx (by assumption) | exact isSp.gx (by assumption) | exact isI.gx (isR.i (by assumption)) | exact isI.gx (isRd.i (by assumption)) | exact isI.gc (isRd.i (by assumption)) | exact isI.gx (isSp.i (by assumption)) | exact isW.gx (isR.w (by assumption)) | exact isW.gF (isR.w (by assumption)) | fail "no such object") (by rfl) ?_
        refine r_getf (pc := 52) dX9_faultThing_52 fX9_209 (by first | assumption | exact isI.gx (by assumption) | exact isI.gc (by assumption) | exact isW.gx (by assumption) | exact isW.gF (by assumption) | exact isW.gT (by assumption) (by omega) | exact isW.gS (by assumption) (by omega) | exact isW.gK (by assumption) (by omega) | exact isW.g1 (by assumption) | exact isW.g2 (by assumption) | exact isW.g3 (by assumption) | exact isI.gx (isW.i0 (by assumption)) | exact isI.gc (isW.i0 (by assumption)) | exact isI.gx (isW.i1 (by assumption)) | exact isI.gc (isW.i1 (by assumption)) | exact isI.gx (isW.i2 (by assumption)) | exact isI.gc (isW.i2 (by assumption)) | exact isI.gx (isW.i3 (by assumption)) | exact isI.gc (isW.i3 (by assumption)) | exact isI.gx (isW.i4 (by assumption)) | exact isI.gc (isW.i4 (by assumption)) | exact isI.gx (isW.i5 (by assumption)) | exact isI.gc (isW.i5 (by assumption)) | exact isR.gx (by assumption) | exact isRd.gx (by assumption) | exact isSp.gx (by assumption) | exact isI.gx (isR.i (by assumption)) | exact isI.gx (isRd.i (by assumption)) | exact isI.gc (isRd.i (by assumption)) | exact isI.gx (isSp.i (by assumption)) | exact isW.gx (isR.w (by assumption)) | exact isW.gF (isR.w (by assumption)) | fail "no such object") (by rfl) ?_
        refine r_iload (pc := 55) dX9_faultThing_55 rfl ?_
        refine r_callV1 (pc := 57) dX9_faultThing_57 qX1_at kX9_147 vX1_at (by first | assumption | exact isI.gx (by assumption) | exact isI.gc (by assumption) | exact isW.gx (by assumption) | exact isW.gF (by assumption) | exact isW.gT (by assumption) (by omega) | exact isW.gS (by assumption) (by omega) | exact isW.gK (by assumption) (by omega) | exact isW.g1 (by assumption) | exact isW.g2 (by assumption) | exact isW.g3 (by assumption) | exact isI.gx (isW.i0 (by assumption)) | exact isI.gc (isW.i0 (by assumption)) | exact isI.gx (isW.i1 (by assumption)) | exact isI.gc (isW.i1 (by assumption)) | exact isI.gx (isW.i2 (by assumption)) | exact isI.gc (isW.i2 (by assumption)) | exact isI.gx (isW.i3 (by assumption)) | exact isI.gc (isW.i3 (by assumption)) | exact isI.gx (isW.i4 (by assumption)) | exact isI.gc (isW.i4 (by assumption)) | exact isI.gx (isW.i5 (by assumption)) | exact isI.gc (isW.i5 (by assumption)) | exact isR.gx (by assumption) | exact isRd.gx (by assumption) | exact isSp.gx (by assumption) | exact isI.gx (isR.i (by assumption)) | exact isI.gx (isRd.i (by assumption)) | exact isI.gc (isRd.i (by assumption)) | exact isI.gx (isSp.i (by assumption)) | exact isW.gx (isR.w (by assumption)) | exact isW.gF (isR.w (by assumption)) | fail "no such object") rfl rfl (Nat.le_of_ble_eq_true rfl) (ci_at _ hW.i4 (by decide) (hc _) ⟨by omega, by omega⟩) (fun v_57 h_57 q_57 => ?_)
        obtain ⟨rfl, rfl⟩ := q_57
        refine r_ireturn (pc := 60) .int dX9_faultThing_60 rfl (by first | rfl | assumption) ?_
        first | (exfalso; omega) | exact ⟨by unfold fgF; rw [if_pos ⟨by assumption, by assumption⟩], rfl⟩ | exact ⟨by unfold fgF; rw [if_neg (fun g => by omega), if_pos (show ofF c i = 0 by assumption), if_pos (by omega)], rfl⟩ | exact ⟨by unfold fgF; rw [if_neg (fun g => by omega), if_neg (show ¬ ofF c i = 0 by assumption), if_pos (by omega)], rfl⟩ | exact ⟨by unfold fgF; rw [if_neg (fun g => by omega), if_pos (show ofF c i = 0 by assumption), if_neg (by omega), ← h12], rfl⟩ | exact ⟨by unfold fgF; rw [if_neg (fun g => by omega), if_neg (show ¬ ofF c i = 0 by assumption), if_neg (by omega), ← h12], rfl⟩
      · refine rj_iconst (pc := 44) dX9_faultThing_44 ?_
        refine r_goto (pc := 45) (tgt := 60) dX9_faultThing_45 (by decide) ?_
        refine r_ireturn (pc := 60) .int dX9_faultThing_60 rfl (by first | rfl | assumption) ?_
        first | (exfalso; omega) | exact ⟨by unfold fgF; rw [if_pos ⟨by assumption, by assumption⟩], rfl⟩ | exact ⟨by unfold fgF; rw [if_neg (fun g => by omega), if_pos (show ofF c i = 0 by assumption), if_pos (by omega)], rfl⟩ | exact ⟨by unfold fgF; rw [if_neg (fun g => by omega), if_neg (show ¬ ofF c i = 0 by assumption), if_pos (by omega)], rfl⟩ | exact ⟨by unfold fgF; rw [if_neg (fun g => by omega), if_pos (show ofF c i = 0 by assumption), if_neg (by omega), ← h12], rfl⟩ | exact ⟨by unfold fgF; rw [if_neg (fun g => by omega), if_neg (show ¬ ofF c i = 0 by assumption), if_neg (by omega), ← h12], rfl⟩
    · try simp only [b01_0, bz_0, Classical.not_not] at c_24
      refine r_iload_n (pc := 27) dX9_faultThing_27 rfl ?_
      refine r_goto (pc := 28) (tgt := 34) dX9_faultThing_28 (by decide) ?_
      refine r_callV2 (pc := 34) dX9_faultThing_34 qX0_placeOf kX9_206 vX0_placeOf (by first | assumption | exact isI.gx (by assumption) | exact isI.gc (by assumption) | exact isW.gx (by assumption) | exact isW.gF (by assumption) | exact isW.gT (by assumption) (by omega) | exact isW.gS (by assumption) (by omega) | exact isW.gK (by assumption) (by omega) | exact isW.g1 (by assumption) | exact isW.g2 (by assumption) | exact isW.g3 (by assumption) | exact isI.gx (isW.i0 (by assumption)) | exact isI.gc (isW.i0 (by assumption)) | exact isI.gx (isW.i1 (by assumption)) | exact isI.gc (isW.i1 (by assumption)) | exact isI.gx (isW.i2 (by assumption)) | exact isI.gc (isW.i2 (by assumption)) | exact isI.gx (isW.i3 (by assumption)) | exact isI.gc (isW.i3 (by assumption)) | exact isI.gx (isW.i4 (by assumption)) | exact isI.gc (isW.i4 (by assumption)) | exact isI.gx (isW.i5 (by assumption)) | exact isI.gc (isW.i5 (by assumption)) | exact isR.gx (by assumption) | exact isRd.gx (by assumption) | exact isSp.gx (by assumption) | exact isI.gx (isR.i (by assumption)) | exact isI.gx (isRd.i (by assumption)) | exact isI.gc (isRd.i (by assumption)) | exact isI.gx (isSp.i (by assumption)) | exact isW.gx (isR.w (by assumption)) | exact isW.gF (isR.w (by assumption)) | fail "no such object") rfl rfl (Nat.le_of_ble_eq_true rfl) (cq_placeOf _ hW hc h11 h12 h13 hcapF h4 hC5 hi (k := k) ⟨by omega, by omega⟩) (fun v_34 h_34 q_34 => ?_)
      obtain ⟨rfl, rfl⟩ := q_34
      have rp := pwF_r (c := c) (f := C 5) (F := F) (i := i) (k := k)
      have rp2 : b0F c i ≤ F := by unfold b0F; split <;> omega
      have rp3 := rp.2 rp2
      have rp1 := rp.1
      clear rp
      refine r_istore (pc := 37) dX9_faultThing_37 (Nat.le_of_ble_eq_true rfl) ?_
      dsimp only [lsSt, List.set, mLs, mEnt]
      refine r_iload (pc := 39) dX9_faultThing_39 rfl ?_
      refine rj_if_ge (pc := 41) (tgt := 48) dX9_faultThing_41 (by decide) (by first | exact b01_r | exact bz_r | omega | (constructor <;> omega) | apply_assumption | (apply atF_r; assumption) | fail "no range") (fun c_41 => ?_) (fun c_41 => ?_)
      · refine r_aload_n (pc := 48) dX9_faultThing_48 rfl (by first | rfl | exact isRefV_rf _) ?_
        refine r_getf (pc := 49) dX9_faultThing_49 fX9_47 (by first | assumption | exact isI.gx (by assumption) | exact isI.gc (by assumption) | exact isW.gx (by assumption) | exact isW.gF (by assumption) | exact isW.gT (by assumption) (by omega) | exact isW.gS (by assumption) (by omega) | exact isW.gK (by assumption) (by omega) | exact isW.g1 (by assumption) | exact isW.g2 (by assumption) | exact isW.g3 (by assumption) | exact isI.gx (isW.i0 (by assumption)) | exact isI.gc (isW.i0 (by assumption)) | exact isI.gx (isW.i1 (by assumption)) | exact isI.gc (isW.i1 (by assumption)) | exact isI.gx (isW.i2 (by assumption)) | exact isI.gc (isW.i2 (by assumption)) | exact isI.gx (isW.i3 (by assumption)) | exact isI.gc (isW.i3 (by assumption)) | exact isI.gx (isW.i4 (by assumption)) | exact isI.gc (isW.i4 (by assumption)) | exact isI.gx (isW.i5 (by assumption)) | exact isI.gc (isW.i5 (by assumption)) | exact isR.gx (by assumption) | exact isRd.gx (by assumption) | exact isSp.gx (by assumption) | exact isI.gx (isR.i (by assumption)) | exact isI.gx (isRd.i (by assumption)) | exact isI.gc (isRd.i (by assumption)) | exact isI.gx (isSp.i (by assumption)) | exact isW.gx (isR.w (by assumption)) | exact isW.gF (isR.w (by assumption)) | fail "no such object") (by rfl) ?_
        refine r_getf (pc := 52) dX9_faultThing_52 fX9_209 (by first | assumption | exact isI.gx (by assumption) | exact isI.gc (by assumption) | exact isW.gx (by assumption) | exact isW.gF (by assumption) | exact isW.gT (by assumption) (by omega) | exact isW.gS (by assumption) (by omega) | exact isW.gK (by assumption) (by omega) | exact isW.g1 (by assumption) | exact isW.g2 (by assumption) | exact isW.g3 (by assumption) | exact isI.gx (isW.i0 (by assumption)) | exact isI.gc (isW.i0 (by assumption)) | exact isI.gx (isW.i1 (by assumption)) | exact isI.gc (isW.i1 (by assumption)) | exact isI.gx (isW.i2 (by assumption)) | exact isI.gc (isW.i2 (by assumption)) | exact isI.gx (isW.i3 (by assumption)) | exact isI.gc (isW.i3 (by assumption)) | exact isI.gx (isW.i4 (by assumption)) | exact isI.gc (isW.i4 (by assumption)) | exact isI.gx (isW.i5 (by assumption)) | exact isI.gc (isW.i5 (by assumption)) | exact isR.gx (by assumption) | exact isRd.gx (by assumption) | exact isSp.gx (by assumption) | exact isI.gx (isR.i (by assumption)) | exact isI.gx (isRd.i (by assumption)) | exact isI.gc (isRd.i (by assumption)) | exact isI.gx (isSp.i (by assumption)) | exact isW.gx (isR.w (by assumption)) | exact isW.gF (isR.w (by assumption)) | fail "no such object") (by rfl) ?_
        refine r_iload (pc := 55) dX9_faultThing_55 rfl ?_
        refine r_callV1 (pc := 57) dX9_faultThing_57 qX1_at kX9_147 vX1_at (by first | assumption | exact isI.gx (by assumption) | exact isI.gc (by assumption) | exact isW.gx (by assumption) | exact isW.gF (by assumption) | exact isW.gT (by assumption) (by omega) | exact isW.gS (by assumption) (by omega) | exact isW.gK (by assumption) (by omega) | exact isW.g1 (by assumption) | exact isW.g2 (by assumption) | exact isW.g3 (by assumption) | exact isI.gx (isW.i0 (by assumption)) | exact isI.gc (isW.i0 (by assumption)) | exact isI.gx (isW.i1 (by assumption)) | exact isI.gc (isW.i1 (by assumption)) | exact isI.gx (isW.i2 (by assumption)) | exact isI.gc (isW.i2 (by assumption)) | exact isI.gx (isW.i3 (by assumption)) | exact isI.gc (isW.i3 (by assumption)) | exact isI.gx (isW.i4 (by assumption)) | exact isI.gc (isW.i4 (by assumption)) | exact isI.gx (isW.i5 (by assumption)) | exact isI.gc (isW.i5 (by assumption)) | exact isR.gx (by assumption) | exact isRd.gx (by assumption) | exact isSp.gx (by assumption) | exact isI.gx (isR.i (by assumption)) | exact isI.gx (isRd.i (by assumption)) | exact isI.gc (isRd.i (by assumption)) | exact isI.gx (isSp.i (by assumption)) | exact isW.gx (isR.w (by assumption)) | exact isW.gF (isR.w (by assumption)) | fail "no such object") rfl rfl (Nat.le_of_ble_eq_true rfl) (ci_at _ hW.i4 (by decide) (hc _) ⟨by omega, by omega⟩) (fun v_57 h_57 q_57 => ?_)
        obtain ⟨rfl, rfl⟩ := q_57
        refine r_ireturn (pc := 60) .int dX9_faultThing_60 rfl (by first | rfl | assumption) ?_
        first | (exfalso; omega) | exact ⟨by unfold fgF; rw [if_pos ⟨by assumption, by assumption⟩], rfl⟩ | exact ⟨by unfold fgF; rw [if_neg (fun g => by omega), if_pos (show ofF c i = 0 by assumption), if_pos (by omega)], rfl⟩ | exact ⟨by unfold fgF; rw [if_neg (fun g => by omega), if_neg (show ¬ ofF c i = 0 by assumption), if_pos (by omega)], rfl⟩ | exact ⟨by unfold fgF; rw [if_neg (fun g => by omega), if_pos (show ofF c i = 0 by assumption), if_neg (by omega), ← h12], rfl⟩ | exact ⟨by unfold fgF; rw [if_neg (fun g => by omega), if_neg (show ¬ ofF c i = 0 by assumption), if_neg (by omega), ← h12], rfl⟩
      · refine rj_iconst (pc := 44) dX9_faultThing_44 ?_
        refine r_goto (pc := 45) (tgt := 60) dX9_faultThing_45 (by decide) ?_
        refine r_ireturn (pc := 60) .int dX9_faultThing_60 rfl (by first | rfl | assumption) ?_
        first | (exfalso; omega) | exact ⟨by unfold fgF; rw [if_pos ⟨by assumption, by assumption⟩], rfl⟩ | exact ⟨by unfold fgF; rw [if_neg (fun g => by omega), if_pos (show ofF c i = 0 by assumption), if_pos (by omega)], rfl⟩ | exact ⟨by unfold fgF; rw [if_neg (fun g => by omega), if_neg (show ¬ ofF c i = 0 by assumption), if_pos (by omega)], rfl⟩ | exact ⟨by unfold fgF; rw [if_neg (fun g => by omega), if_pos (show ofF c i = 0 by assumption), if_neg (by omega), ← h12], rfl⟩ | exact ⟨by unfold fgF; rw [if_neg (fun g => by omega), if_neg (show ¬ ofF c i = 0 by assumption), if_neg (by omega), ← h12], rfl⟩
  · try simp only [b01_0, bz_0, Classical.not_not] at c_7
    refine r_iload_n (pc := 10) dX9_faultThing_10 rfl ?_
    refine rj_if_ne (pc := 11) (tgt := 18) dX9_faultThing_11 (by decide) (by first | exact b01_r | exact bz_r | omega | (constructor <;> omega) | apply_assumption | (apply atF_r; assumption) | fail "no range") (fun c_11 => ?_) (fun c_11 => ?_)
    · try simp only [b01_0, bz_0, Classical.not_not] at c_11
      refine r_aload_n (pc := 18) dX9_faultThing_18 rfl (by first | rfl | exact isRefV_rf _) ?_
      refine r_getf (pc := 19) dX9_faultThing_19 fX9_47 (by first | assumption | exact isI.gx (by assumption) | exact isI.gc (by assumption) | exact isW.gx (by assumption) | exact isW.gF (by assumption) | exact isW.gT (by assumption) (by omega) | exact isW.gS (by assumption) (by omega) | exact isW.gK (by assumption) (by omega) | exact isW.g1 (by assumption) | exact isW.g2 (by assumption) | exact isW.g3 (by assumption) | exact isI.gx (isW.i0 (by assumption)) | exact isI.gc (isW.i0 (by assumption)) | exact isI.gx (isW.i1 (by assumption)) | exact isI.gc (isW.i1 (by assumption)) | exact isI.gx (isW.i2 (by assumption)) | exact isI.gc (isW.i2 (by assumption)) | exact isI.gx (isW.i3 (by assumption)) | exact isI.gc (isW.i3 (by assumption)) | exact isI.gx (isW.i4 (by assumption)) | exact isI.gc (isW.i4 (by assumption)) | exact isI.gx (isW.i5 (by assumption)) | exact isI.gc (isW.i5 (by assumption)) | exact isR.gx (by assumption) | exact isRd.gx (by assumption) | exact isSp.gx (by assumption) | exact isI.gx (isR.i (by assumption)) | exact isI.gx (isRd.i (by assumption)) | exact isI.gc (isRd.i (by assumption)) | exact isI.gx (isSp.i (by assumption)) | exact isW.gx (isR.w (by assumption)) | exact isW.gF (isR.w (by assumption)) | fail "no such object") (by rfl) ?_
      refine r_iload_n (pc := 22) dX9_faultThing_22 rfl ?_
      refine r_iload_n (pc := 23) dX9_faultThing_23 rfl ?_
      refine rj_if_ne (pc := 24) (tgt := 31) dX9_faultThing_24 (by decide) (by first | exact b01_r | exact bz_r | omega | (constructor <;> omega) | apply_assumption | (apply atF_r; assumption) | fail "no range") (fun c_24 => ?_) (fun c_24 => ?_)
      · try simp only [b01_0, bz_0, Classical.not_not] at c_24
        refine r_iload_n (pc := 31) dX9_faultThing_31 rfl ?_
        refine rj_iconst (pc := 32) dX9_faultThing_32 ?_
        refine rj_isub (pc := 33) dX9_faultThing_33 ?_
        refine r_callV2 (pc := 34) dX9_faultThing_34 qX0_placeOf kX9_206 vX0_placeOf (by first | assumption | exact isI.gx (by assumption) | exact isI.gc (by assumption) | exact isW.gx (by assumption) | exact isW.gF (by assumption) | exact isW.gT (by assumption) (by omega) | exact isW.gS (by assumption) (by omega) | exact isW.gK (by assumption) (by omega) | exact isW.g1 (by assumption) | exact isW.g2 (by assumption) | exact isW.g3 (by assumption) | exact isI.gx (isW.i0 (by assumption)) | exact isI.gc (isW.i0 (by assumption)) | exact isI.gx (isW.i1 (by assumption)) | exact isI.gc (isW.i1 (by assumption)) | exact isI.gx (isW.i2 (by assumption)) | exact isI.gc (isW.i2 (by assumption)) | exact isI.gx (isW.i3 (by assumption)) | exact isI.gc (isW.i3 (by assumption)) | exact isI.gx (isW.i4 (by assumption)) | exact isI.gc (isW.i4 (by assumption)) | exact isI.gx (isW.i5 (by assumption)) | exact isI.gc (isW.i5 (by assumption)) | exact isR.gx (by assumption) | exact isRd.gx (by assumption) | exact isSp.gx (by assumption) | exact isI.gx (isR.i (by assumption)) | exact isI.gx (isRd.i (by assumption)) | exact isI.gc (isRd.i (by assumption)) | exact isI.gx (isSp.i (by assumption)) | exact isW.gx (isR.w (by assumption)) | exact isW.gF (isR.w (by assumption)) | fail "no such object") rfl rfl (Nat.le_of_ble_eq_true rfl) (cq_placeOf _ hW hc h11 h12 h13 hcapF h4 hC5 hi (k := k - 1) ⟨by omega, by omega⟩) (fun v_34 h_34 q_34 => ?_)
        obtain ⟨rfl, rfl⟩ := q_34
        have rp := pwF_r (c := c) (f := C 5) (F := F) (i := i) (k := k - 1)
        have rp2 : b0F c i ≤ F := by unfold b0F; split <;> omega
        have rp3 := rp.2 rp2
        have rp1 := rp.1
        clear rp
        refine r_istore (pc := 37) dX9_faultThing_37 (Nat.le_of_ble_eq_true rfl) ?_
        dsimp only [lsSt, List.set, mLs, mEnt]
        refine r_iload (pc := 39) dX9_faultThing_39 rfl ?_
        refine rj_if_ge (pc := 41) (tgt := 48) dX9_faultThing_41 (by decide) (by first | exact b01_r | exact bz_r | omega | (constructor <;> omega) | apply_assumption | (apply atF_r; assumption) | fail "no range") (fun c_41 => ?_) (fun c_41 => ?_)
        · refine r_aload_n (pc := 48) dX9_faultThing_48 rfl (by first | rfl | exact isRefV_rf _) ?_
          refine r_getf (pc := 49) dX9_faultThing_49 fX9_47 (by first | assumption | exact isI.gx (by assumption) | exact isI.gc (by assumption) | exact isW.gx (by assumption) | exact isW.gF (by assumption) | exact isW.gT (by assumption) (by omega) | exact isW.gS (by assumption) (by omega) | exact isW.gK (by assumption) (by omega) | exact isW.g1 (by assumption) | exact isW.g2 (by assumption) | exact isW.g3 (by assumption) | exact isI.gx (isW.i0 (by assumption)) | exact isI.gc (isW.i0 (by assumption)) | exact isI.gx (isW.i1 (by assumption)) | exact isI.gc (isW.i1 (by assumption)) | exact isI.gx (isW.i2 (by assumption)) | exact isI.gc (isW.i2 (by assumption)) | exact isI.gx (isW.i3 (by assumption)) | exact isI.gc (isW.i3 (by assumption)) | exact isI.gx (isW.i4 (by assumption)) | exact isI.gc (isW.i4 (by assumption)) | exact isI.gx (isW.i5 (by assumption)) | exact isI.gc (isW.i5 (by assumption)) | exact isR.gx (by assumption) | exact isRd.gx (by assumption) | exact isSp.gx (by assumption) | exact isI.gx (isR.i (by assumption)) | exact isI.gx (isRd.i (by assumption)) | exact isI.gc (isRd.i (by assumption)) | exact isI.gx (isSp.i (by assumption)) | exact isW.gx (isR.w (by assumption)) | exact isW.gF (isR.w (by assumption)) | fail "no such object") (by rfl) ?_
          refine r_getf (pc := 52) dX9_faultThing_52 fX9_209 (by first | assumption | exact isI.gx (by assumption) | exact isI.gc (by assumption) | exact isW.gx (by assumption) | exact isW.gF (by assumption) | exact isW.gT (by assumption) (by omega) | exact isW.gS (by assumption) (by omega) | exact isW.gK (by assumption) (by omega) | exact isW.g1 (by assumption) | exact isW.g2 (by assumption) | exact isW.g3 (by assumption) | exact isI.gx (isW.i0 (by assumption)) | exact isI.gc (isW.i0 (by assumption)) | exact isI.gx (isW.i1 (by assumption)) | exact isI.gc (isW.i1 (by assumption)) | exact isI.gx (isW.i2 (by assumption)) | exact isI.gc (isW.i2 (by assumption)) | exact isI.gx (isW.i3 (by assumption)) | exact isI.gc (isW.i3 (by assumption)) | exact isI.gx (isW.i4 (by assumption)) | exact isI.gc (isW.i4 (by assumption)) | exact isI.gx (isW.i5 (by assumption)) | exact isI.gc (isW.i5 (by assumption)) | exact isR.gx (by assumption) | exact isRd.gx (by assumption) | exact isSp.gx (by assumption) | exact isI.gx (isR.i (by assumption)) | exact isI.gx (isRd.i (by assumption)) | exact isI.gc (isRd.i (by assumption)) | exact isI.gx (isSp.i (by assumption)) | exact isW.gx (isR.w (by assumption)) | exact isW.gF (isR.w (by assumption)) | fail "no such object") (by rfl) ?_
          refine r_iload (pc := 55) dX9_faultThing_55 rfl ?_
          refine r_callV1 (pc := 57) dX9_faultThing_57 qX1_at kX9_147 vX1_at (by first | assumption | exact isI.gx (by assumption) | exact isI.gc (by assumption) | exact isW.gx (by assumption) | exact isW.gF (by assumption) | exact isW.gT (by assumption) (by omega) | exact isW.gS (by assumption) (by omega) | exact isW.gK (by assumption) (by omega) | exact isW.g1 (by assumption) | exact isW.g2 (by assumption) | exact isW.g3 (by assumption) | exact isI.gx (isW.i0 (by assumption)) | exact isI.gc (isW.i0 (by assumption)) | exact isI.gx (isW.i1 (by assumption)) | exact isI.gc (isW.i1 (by assumption)) | exact isI.gx (isW.i2 (by assumption)) | exact isI.gc (isW.i2 (by assumption)) | exact isI.gx (isW.i3 (by assumption)) | exact isI.gc (isW.i3 (by assumption)) | exact isI.gx (isW.i4 (by assumption)) | exact isI.gc (isW.i4 (by assumption)) | exact isI.gx (isW.i5 (by assumption)) | exact isI.gc (isW.i5 (by assumption)) | exact isR.gx (by assumption) | exact isRd.gx (by assumption) | exact isSp.gx (by assumption) | exact isI.gx (isR.i (by assumption)) | exact isI.gx (isRd.i (by assumption)) | exact isI.gc (isRd.i (by assumption)) | exact isI.gx (isSp.i (by assumption)) | exact isW.gx (isR.w (by assumption)) | exact isW.gF (isR.w (by assumption)) | fail "no such object") rfl rfl (Nat.le_of_ble_eq_true rfl) (ci_at _ hW.i4 (by decide) (hc _) ⟨by omega, by omega⟩) (fun v_57 h_57 q_57 => ?_)
          obtain ⟨rfl, rfl⟩ := q_57
          refine r_ireturn (pc := 60) .int dX9_faultThing_60 rfl (by first | rfl | assumption) ?_
          first | (exfalso; omega) | exact ⟨by unfold fgF; rw [if_pos ⟨by assumption, by assumption⟩], rfl⟩ | exact ⟨by unfold fgF; rw [if_neg (fun g => by omega), if_pos (show ofF c i = 0 by assumption), if_pos (by omega)], rfl⟩ | exact ⟨by unfold fgF; rw [if_neg (fun g => by omega), if_neg (show ¬ ofF c i = 0 by assumption), if_pos (by omega)], rfl⟩ | exact ⟨by unfold fgF; rw [if_neg (fun g => by omega), if_pos (show ofF c i = 0 by assumption), if_neg (by omega), ← h12], rfl⟩ | exact ⟨by unfold fgF; rw [if_neg (fun g => by omega), if_neg (show ¬ ofF c i = 0 by assumption), if_neg (by omega), ← h12], rfl⟩
        · refine rj_iconst (pc := 44) dX9_faultThing_44 ?_
          refine r_goto (pc := 45) (tgt := 60) dX9_faultThing_45 (by decide) ?_
          refine r_ireturn (pc := 60) .int dX9_faultThing_60 rfl (by first | rfl | assumption) ?_
          first | (exfalso; omega) | exact ⟨by unfold fgF; rw [if_pos ⟨by assumption, by assumption⟩], rfl⟩ | exact ⟨by unfold fgF; rw [if_neg (fun g => by omega), if_pos (show ofF c i = 0 by assumption), if_pos (by omega)], rfl⟩ | exact ⟨by unfold fgF; rw [if_neg (fun g => by omega), if_neg (show ¬ ofF c i = 0 by assumption), if_pos (by omega)], rfl⟩ | exact ⟨by unfold fgF; rw [if_neg (fun g => by omega), if_pos (show ofF c i = 0 by assumption), if_neg (by omega), ← h12], rfl⟩ | exact ⟨by unfold fgF; rw [if_neg (fun g => by omega), if_neg (show ¬ ofF c i = 0 by assumption), if_neg (by omega), ← h12], rfl⟩
      · try simp only [b01_0, bz_0, Classical.not_not] at c_24
        refine r_iload_n (pc := 27) dX9_faultThing_27 rfl ?_
        refine r_goto (pc := 28) (tgt := 34) dX9_faultThing_28 (by decide) ?_
        refine r_callV2 (pc := 34) dX9_faultThing_34 qX0_placeOf kX9_206 vX0_placeOf (by first | assumption | exact isI.gx (by assumption) | exact isI.gc (by assumption) | exact isW.gx (by assumption) | exact isW.gF (by assumption) | exact isW.gT (by assumption) (by omega) | exact isW.gS (by assumption) (by omega) | exact isW.gK (by assumption) (by omega) | exact isW.g1 (by assumption) | exact isW.g2 (by assumption) | exact isW.g3 (by assumption) | exact isI.gx (isW.i0 (by assumption)) | exact isI.gc (isW.i0 (by assumption)) | exact isI.gx (isW.i1 (by assumption)) | exact isI.gc (isW.i1 (by assumption)) | exact isI.gx (isW.i2 (by assumption)) | exact isI.gc (isW.i2 (by assumption)) | exact isI.gx (isW.i3 (by assumption)) | exact isI.gc (isW.i3 (by assumption)) | exact isI.gx (isW.i4 (by assumption)) | exact isI.gc (isW.i4 (by assumption)) | exact isI.gx (isW.i5 (by assumption)) | exact isI.gc (isW.i5 (by assumption)) | exact isR.gx (by assumption) | exact isRd.gx (by assumption) | exact isSp.gx (by assumption) | exact isI.gx (isR.i (by assumption)) | exact isI.gx (isRd.i (by assumption)) | exact isI.gc (isRd.i (by assumption)) | exact isI.gx (isSp.i (by assumption)) | exact isW.gx (isR.w (by assumption)) | exact isW.gF (isR.w (by assumption)) | fail "no such object") rfl rfl (Nat.le_of_ble_eq_true rfl) (cq_placeOf _ hW hc h11 h12 h13 hcapF h4 hC5 hi (k := k) ⟨by omega, by omega⟩) (fun v_34 h_34 q_34 => ?_)
        obtain ⟨rfl, rfl⟩ := q_34
        have rp := pwF_r (c := c) (f := C 5) (F := F) (i := i) (k := k)
        have rp2 : b0F c i ≤ F := by unfold b0F; split <;> omega
        have rp3 := rp.2 rp2
        have rp1 := rp.1
        clear rp
        refine r_istore (pc := 37) dX9_faultThing_37 (Nat.le_of_ble_eq_true rfl) ?_
        dsimp only [lsSt, List.set, mLs, mEnt]
        refine r_iload (pc := 39) dX9_faultThing_39 rfl ?_
        refine rj_if_ge (pc := 41) (tgt := 48) dX9_faultThing_41 (by decide) (by first | exact b01_r | exact bz_r | omega | (constructor <;> omega) | apply_assumption | (apply atF_r; assumption) | fail "no range") (fun c_41 => ?_) (fun c_41 => ?_)
        · refine r_aload_n (pc := 48) dX9_faultThing_48 rfl (by first | rfl | exact isRefV_rf _) ?_
          refine r_getf (pc := 49) dX9_faultThing_49 fX9_47 (by first | assumption | exact isI.gx (by assumption) | exact isI.gc (by assumption) | exact isW.gx (by assumption) | exact isW.gF (by assumption) | exact isW.gT (by assumption) (by omega) | exact isW.gS (by assumption) (by omega) | exact isW.gK (by assumption) (by omega) | exact isW.g1 (by assumption) | exact isW.g2 (by assumption) | exact isW.g3 (by assumption) | exact isI.gx (isW.i0 (by assumption)) | exact isI.gc (isW.i0 (by assumption)) | exact isI.gx (isW.i1 (by assumption)) | exact isI.gc (isW.i1 (by assumption)) | exact isI.gx (isW.i2 (by assumption)) | exact isI.gc (isW.i2 (by assumption)) | exact isI.gx (isW.i3 (by assumption)) | exact isI.gc (isW.i3 (by assumption)) | exact isI.gx (isW.i4 (by assumption)) | exact isI.gc (isW.i4 (by assumption)) | exact isI.gx (isW.i5 (by assumption)) | exact isI.gc (isW.i5 (by assumption)) | exact isR.gx (by assumption) | exact isRd.gx (by assumption) | exact isSp.gx (by assumption) | exact isI.gx (isR.i (by assumption)) | exact isI.gx (isRd.i (by assumption)) | exact isI.gc (isRd.i (by assumption)) | exact isI.gx (isSp.i (by assumption)) | exact isW.gx (isR.w (by assumption)) | exact isW.gF (isR.w (by assumption)) | fail "no such object") (by rfl) ?_
          refine r_getf (pc := 52) dX9_faultThing_52 fX9_209 (by first | assumption | exact isI.gx (by assumption) | exact isI.gc (by assumption) | exact isW.gx (by assumption) | exact isW.gF (by assumption) | exact isW.gT (by assumption) (by omega) | exact isW.gS (by assumption) (by omega) | exact isW.gK (by assumption) (by omega) | exact isW.g1 (by assumption) | exact isW.g2 (by assumption) | exact isW.g3 (by assumption) | exact isI.gx (isW.i0 (by assumption)) | exact isI.gc (isW.i0 (by assumption)) | exact isI.gx (isW.i1 (by assumption)) | exact isI.gc (isW.i1 (by assumption)) | exact isI.gx (isW.i2 (by assumption)) | exact isI.gc (isW.i2 (by assumption)) | exact isI.gx (isW.i3 (by assumption)) | exact isI.gc (isW.i3 (by assumption)) | exact isI.gx (isW.i4 (by assumption)) | exact isI.gc (isW.i4 (by assumption)) | exact isI.gx (isW.i5 (by assumption)) | exact isI.gc (isW.i5 (by assumption)) | exact isR.gx (by assumption) | exact isRd.gx (by assumption) | exact isSp.gx (by assumption) | exact isI.gx (isR.i (by assumption)) | exact isI.gx (isRd.i (by assumption)) | exact isI.gc (isRd.i (by assumption)) | exact isI.gx (isSp.i (by assumption)) | exact isW.gx (isR.w (by assumption)) | exact isW.gF (isR.w (by assumption)) | fail "no such object") (by rfl) ?_
          refine r_iload (pc := 55) dX9_faultThing_55 rfl ?_
          refine r_callV1 (pc := 57) dX9_faultThing_57 qX1_at kX9_147 vX1_at (by first | assumption | exact isI.gx (by assumption) | exact isI.gc (by assumption) | exact isW.gx (by assumption) | exact isW.gF (by assumption) | exact isW.gT (by assumption) (by omega) | exact isW.gS (by assumption) (by omega) | exact isW.gK (by assumption) (by omega) | exact isW.g1 (by assumption) | exact isW.g2 (by assumption) | exact isW.g3 (by assumption) | exact isI.gx (isW.i0 (by assumption)) | exact isI.gc (isW.i0 (by assumption)) | exact isI.gx (isW.i1 (by assumption)) | exact isI.gc (isW.i1 (by assumption)) | exact isI.gx (isW.i2 (by assumption)) | exact isI.gc (isW.i2 (by assumption)) | exact isI.gx (isW.i3 (by assumption)) | exact isI.gc (isW.i3 (by assumption)) | exact isI.gx (isW.i4 (by assumption)) | exact isI.gc (isW.i4 (by assumption)) | exact isI.gx (isW.i5 (by assumption)) | exact isI.gc (isW.i5 (by assumption)) | exact isR.gx (by assumption) | exact isRd.gx (by assumption) | exact isSp.gx (by assumption) | exact isI.gx (isR.i (by assumption)) | exact isI.gx (isRd.i (by assumption)) | exact isI.gc (isRd.i (by assumption)) | exact isI.gx (isSp.i (by assumption)) | exact isW.gx (isR.w (by assumption)) | exact isW.gF (isR.w (by assumption)) | fail "no such object") rfl rfl (Nat.le_of_ble_eq_true rfl) (ci_at _ hW.i4 (by decide) (hc _) ⟨by omega, by omega⟩) (fun v_57 h_57 q_57 => ?_)
          obtain ⟨rfl, rfl⟩ := q_57
          refine r_ireturn (pc := 60) .int dX9_faultThing_60 rfl (by first | rfl | assumption) ?_
          first | (exfalso; omega) | exact ⟨by unfold fgF; rw [if_pos ⟨by assumption, by assumption⟩], rfl⟩ | exact ⟨by unfold fgF; rw [if_neg (fun g => by omega), if_pos (show ofF c i = 0 by assumption), if_pos (by omega)], rfl⟩ | exact ⟨by unfold fgF; rw [if_neg (fun g => by omega), if_neg (show ¬ ofF c i = 0 by assumption), if_pos (by omega)], rfl⟩ | exact ⟨by unfold fgF; rw [if_neg (fun g => by omega), if_pos (show ofF c i = 0 by assumption), if_neg (by omega), ← h12], rfl⟩ | exact ⟨by unfold fgF; rw [if_neg (fun g => by omega), if_neg (show ¬ ofF c i = 0 by assumption), if_neg (by omega), ← h12], rfl⟩
        · refine rj_iconst (pc := 44) dX9_faultThing_44 ?_
          refine r_goto (pc := 45) (tgt := 60) dX9_faultThing_45 (by decide) ?_
          refine r_ireturn (pc := 60) .int dX9_faultThing_60 rfl (by first | rfl | assumption) ?_
          first | (exfalso; omega) | exact ⟨by unfold fgF; rw [if_pos ⟨by assumption, by assumption⟩], rfl⟩ | exact ⟨by unfold fgF; rw [if_neg (fun g => by omega), if_pos (show ofF c i = 0 by assumption), if_pos (by omega)], rfl⟩ | exact ⟨by unfold fgF; rw [if_neg (fun g => by omega), if_neg (show ¬ ofF c i = 0 by assumption), if_pos (by omega)], rfl⟩ | exact ⟨by unfold fgF; rw [if_neg (fun g => by omega), if_pos (show ofF c i = 0 by assumption), if_neg (by omega), ← h12], rfl⟩ | exact ⟨by unfold fgF; rw [if_neg (fun g => by omega), if_neg (show ¬ ofF c i = 0 by assumption), if_neg (by omega), ← h12], rfl⟩
    · try simp only [b01_0, bz_0, Classical.not_not] at c_11
      refine rj_iconst (pc := 14) dX9_faultThing_14 ?_
      refine r_goto (pc := 15) (tgt := 37) dX9_faultThing_15 (by decide) ?_
      refine r_istore (pc := 37) dX9_faultThing_37 (Nat.le_of_ble_eq_true rfl) ?_
      dsimp only [lsSt, List.set, mLs, mEnt]
      refine r_iload (pc := 39) dX9_faultThing_39 rfl ?_
      refine rj_if_ge (pc := 41) (tgt := 48) dX9_faultThing_41 (by decide) (by first | exact b01_r | exact bz_r | omega | (constructor <;> omega) | apply_assumption | (apply atF_r; assumption) | fail "no range") (fun c_41 => ?_) (fun c_41 => ?_)
      · refine r_aload_n (pc := 48) dX9_faultThing_48 rfl (by first | rfl | exact isRefV_rf _) ?_
        refine r_getf (pc := 49) dX9_faultThing_49 fX9_47 (by first | assumption | exact isI.gx (by assumption) | exact isI.gc (by assumption) | exact isW.gx (by assumption) | exact isW.gF (by assumption) | exact isW.gT (by assumption) (by omega) | exact isW.gS (by assumption) (by omega) | exact isW.gK (by assumption) (by omega) | exact isW.g1 (by assumption) | exact isW.g2 (by assumption) | exact isW.g3 (by assumption) | exact isI.gx (isW.i0 (by assumption)) | exact isI.gc (isW.i0 (by assumption)) | exact isI.gx (isW.i1 (by assumption)) | exact isI.gc (isW.i1 (by assumption)) | exact isI.gx (isW.i2 (by assumption)) | exact isI.gc (isW.i2 (by assumption)) | exact isI.gx (isW.i3 (by assumption)) | exact isI.gc (isW.i3 (by assumption)) | exact isI.gx (isW.i4 (by assumption)) | exact isI.gc (isW.i4 (by assumption)) | exact isI.gx (isW.i5 (by assumption)) | exact isI.gc (isW.i5 (by assumption)) | exact isR.gx (by assumption) | exact isRd.gx (by assumption) | exact isSp.gx (by assumption) | exact isI.gx (isR.i (by assumption)) | exact isI.gx (isRd.i (by assumption)) | exact isI.gc (isRd.i (by assumption)) | exact isI.gx (isSp.i (by assumption)) | exact isW.gx (isR.w (by assumption)) | exact isW.gF (isR.w (by assumption)) | fail "no such object") (by rfl) ?_
        refine r_getf (pc := 52) dX9_faultThing_52 fX9_209 (by first | assumption | exact isI.gx (by assumption) | exact isI.gc (by assumption) | exact isW.gx (by assumption) | exact isW.gF (by assumption) | exact isW.gT (by assumption) (by omega) | exact isW.gS (by assumption) (by omega) | exact isW.gK (by assumption) (by omega) | exact isW.g1 (by assumption) | exact isW.g2 (by assumption) | exact isW.g3 (by assumption) | exact isI.gx (isW.i0 (by assumption)) | exact isI.gc (isW.i0 (by assumption)) | exact isI.gx (isW.i1 (by assumption)) | exact isI.gc (isW.i1 (by assumption)) | exact isI.gx (isW.i2 (by assumption)) | exact isI.gc (isW.i2 (by assumption)) | exact isI.gx (isW.i3 (by assumption)) | exact isI.gc (isW.i3 (by assumption)) | exact isI.gx (isW.i4 (by assumption)) | exact isI.gc (isW.i4 (by assumption)) | exact isI.gx (isW.i5 (by assumption)) | exact isI.gc (isW.i5 (by assumption)) | exact isR.gx (by assumption) | exact isRd.gx (by assumption) | exact isSp.gx (by assumption) | exact isI.gx (isR.i (by assumption)) | exact isI.gx (isRd.i (by assumption)) | exact isI.gc (isRd.i (by assumption)) | exact isI.gx (isSp.i (by assumption)) | exact isW.gx (isR.w (by assumption)) | exact isW.gF (isR.w (by assumption)) | fail "no such object") (by rfl) ?_
        refine r_iload (pc := 55) dX9_faultThing_55 rfl ?_
        refine r_callV1 (pc := 57) dX9_faultThing_57 qX1_at kX9_147 vX1_at (by first | assumption | exact isI.gx (by assumption) | exact isI.gc (by assumption) | exact isW.gx (by assumption) | exact isW.gF (by assumption) | exact isW.gT (by assumption) (by omega) | exact isW.gS (by assumption) (by omega) | exact isW.gK (by assumption) (by omega) | exact isW.g1 (by assumption) | exact isW.g2 (by assumption) | exact isW.g3 (by assumption) | exact isI.gx (isW.i0 (by assumption)) | exact isI.gc (isW.i0 (by assumption)) | exact isI.gx (isW.i1 (by assumption)) | exact isI.gc (isW.i1 (by assumption)) | exact isI.gx (isW.i2 (by assumption)) | exact isI.gc (isW.i2 (by assumption)) | exact isI.gx (isW.i3 (by assumption)) | exact isI.gc (isW.i3 (by assumption)) | exact isI.gx (isW.i4 (by assumption)) | exact isI.gc (isW.i4 (by assumption)) | exact isI.gx (isW.i5 (by assumption)) | exact isI.gc (isW.i5 (by assumption)) | exact isR.gx (by assumption) | exact isRd.gx (by assumption) | exact isSp.gx (by assumption) | exact isI.gx (isR.i (by assumption)) | exact isI.gx (isRd.i (by assumption)) | exact isI.gc (isRd.i (by assumption)) | exact isI.gx (isSp.i (by assumption)) | exact isW.gx (isR.w (by assumption)) | exact isW.gF (isR.w (by assumption)) | fail "no such object") rfl rfl (Nat.le_of_ble_eq_true rfl) (ci_at _ hW.i4 (by decide) (hc _) ⟨by omega, by omega⟩) (fun v_57 h_57 q_57 => ?_)
        obtain ⟨rfl, rfl⟩ := q_57
        refine r_ireturn (pc := 60) .int dX9_faultThing_60 rfl (by first | rfl | assumption) ?_
        first | (exfalso; omega) | exact ⟨by unfold fgF; rw [if_pos ⟨by assumption, by assumption⟩], rfl⟩ | exact ⟨by unfold fgF; rw [if_neg (fun g => by omega), if_pos (show ofF c i = 0 by assumption), if_pos (by omega)], rfl⟩ | exact ⟨by unfold fgF; rw [if_neg (fun g => by omega), if_neg (show ¬ ofF c i = 0 by assumption), if_pos (by omega)], rfl⟩ | exact ⟨by unfold fgF; rw [if_neg (fun g => by omega), if_pos (show ofF c i = 0 by assumption), if_neg (by omega), ← h12], rfl⟩ | exact ⟨by unfold fgF; rw [if_neg (fun g => by omega), if_neg (show ¬ ofF c i = 0 by assumption), if_neg (by omega), ← h12], rfl⟩
      · refine rj_iconst (pc := 44) dX9_faultThing_44 ?_
        refine r_goto (pc := 45) (tgt := 60) dX9_faultThing_45 (by decide) ?_
        refine r_ireturn (pc := 60) .int dX9_faultThing_60 rfl (by first | rfl | assumption) ?_
        first | (exfalso; omega) | exact ⟨by unfold fgF; rw [if_pos ⟨by assumption, by assumption⟩], rfl⟩ | exact ⟨by unfold fgF; rw [if_neg (fun g => by omega), if_pos (show ofF c i = 0 by assumption), if_pos (by omega)], rfl⟩ | exact ⟨by unfold fgF; rw [if_neg (fun g => by omega), if_neg (show ¬ ofF c i = 0 by assumption), if_pos (by omega)], rfl⟩ | exact ⟨by unfold fgF; rw [if_neg (fun g => by omega), if_pos (show ofF c i = 0 by assumption), if_neg (by omega), ← h12], rfl⟩ | exact ⟨by unfold fgF; rw [if_neg (fun g => by omega), if_neg (show ¬ ofF c i = 0 by assumption), if_neg (by omega), ← h12], rfl⟩
end mg_89
section mg_90
/-! ===== the class: a name's letters ===== -/
noncomputable def letA (y : Int64) (i : Int) : Int := ((y >>> ((J (5 * (6 - i))).toInt64 &&& 63)).toInt32 &&& J 31).toInt
theorem and31 (a : Int32) : (a &&& J 31).toInt = ((a.toBitVec.toNat % 32 : Nat) : Int) := by
  have e : J 31 = (31 : Int32) := by rw [J_def]; decide
  rw [e]
  have e2 : (a &&& (31 : Int32)).toBitVec = a.toBitVec &&& 31#32 := rfl
  have e3 : (a.toBitVec &&& 31#32).toNat = a.toBitVec.toNat % 32 := by
    rw [BitVec.toNat_and]
    exact Nat.and_two_pow_sub_one_eq_mod a.toBitVec.toNat 5
  have e4 : (a &&& (31 : Int32)).toInt = (a.toBitVec &&& 31#32).toInt := by rw [← e2]; rfl
  rw [e4, BitVec.toInt_eq_toNat_of_lt (by rw [e3]; omega), e3]
theorem letA_r (y : Int64) (i : Int) : 0 ≤ letA y i ∧ letA y i ≤ 31 := by
  unfold letA; rw [and31]; omega
noncomputable def letV (y : Int64) (i : Int) : Int := if 0 ≤ i ∧ i < 7 then (if letA y i = 0 then 0 else letA y i + 97 - 1) else 0
theorem letV_r (y : Int64) (i : Int) : 0 ≤ letV y i ∧ letV y i ≤ 127 := by
  have z := letA_r y i
  unfold letV; split
  · split <;> omega
  · omega
set_option maxHeartbeats 4000000 in
set_option maxRecDepth 100000 in
theorem cz_letterOf {G : mG} {l : Launch} (d : Nat) {h : mH} {y : Int64} {i : Int} (hi : InR i) : RUNM G l (d) mX10_letterOf [.long y, .int (J i)] h (fun v h' => v = some (.int (J (letV y i))) ∧ h' = h) := by
  refine RUNM.of (by decide +kernel) (Nat.le_of_ble_eq_true rfl) ?_
  refine r_iload_n (pc := 0) dX10_letterOf_0 rfl ?_
  refine rj_if_lt (pc := 1) (tgt := 10) dX10_letterOf_1 (by decide) (by first | exact b01_r | exact bz_r | omega | (constructor <;> omega) | apply_assumption | (apply atF_r; assumption) | fail "no range") (fun c_1 => ?_) (fun c_1 => ?_)
  · refine rj_iconst (pc := 10) dX10_letterOf_10 ?_
    refine r_ireturn (pc := 11) .int dX10_letterOf_11 rfl (by first | rfl | assumption) ?_
    first | (exfalso; omega) | exact ⟨by unfold letV; rw [if_neg (by omega)], rfl⟩ | exact ⟨by unfold letV; rw [if_pos (by omega), if_pos (by assumption)], rfl⟩ | exact ⟨by unfold letV; rw [if_pos (by omega), if_neg (by assumption)], rfl⟩
  · refine r_iload_n (pc := 4) dX10_letterOf_4 rfl ?_
    refine rj_bipush (pc := 5) dX10_letterOf_5 (by decide +kernel) ?_
    refine rj_icmp_lt (pc := 7) (tgt := 12) dX10_letterOf_7 (by decide) (by first | exact b01_r | exact bz_r | omega | (constructor <;> omega) | apply_assumption | (apply atF_r; assumption) | fail "no range") (by first | exact b01_r | exact bz_r | omega | (constructor <;> omega) | apply_assumption | (apply atF_r; assumption) | fail "no range") (fun c_7 => ?_) (fun c_7 => ?_)
    · refine r_lload_n (pc := 12) dX10_letterOf_12 rfl ?_
      refine rj_iconst (pc := 13) dX10_letterOf_13 ?_
      refine rj_bipush (pc := 14) dX10_letterOf_14 (by decide +kernel) ?_
      refine r_iload_n (pc := 16) dX10_letterOf_16 rfl ?_
      refine rj_isub (pc := 17) dX10_letterOf_17 ?_
      refine rj_imul (pc := 18) dX10_letterOf_18 ?_
      refine r_lshr (pc := 19) dX10_letterOf_19 ?_
      refine r_l2i (pc := 20) dX10_letterOf_20 ?_
      refine rj_bipush (pc := 21) dX10_letterOf_21 (by decide +kernel) ?_
      refine r_iand (pc := 23) dX10_letterOf_23 ?_
      rw [show ((y >>> ((J (5 * (6 - i))).toInt64 &&& 63)).toInt32 &&& J 31) = J (letA y i) from J_of _]
      have ra := letA_r y i
      refine r_istore_n (pc := 24) dX10_letterOf_24 (Nat.le_of_ble_eq_true rfl) ?_
      dsimp only [lsSt, List.set, mLs, mEnt]
      refine r_iload_n (pc := 25) dX10_letterOf_25 rfl ?_
      refine rj_if_ne (pc := 26) (tgt := 33) dX10_letterOf_26 (by decide) (by first | exact b01_r | exact bz_r | omega | (constructor <;> omega) | apply_assumption | (apply atF_r; assumption) | fail "no range") (fun c_26 => ?_) (fun c_26 => ?_)
      · try simp only [b01_0, bz_0, Classical.not_not] at c_26
        refine r_iload_n (pc := 33) dX10_letterOf_33 rfl ?_
        refine rj_bipush (pc := 34) dX10_letterOf_34 (by decide +kernel) ?_
        refine rj_iadd (pc := 36) dX10_letterOf_36 ?_
        refine rj_iconst (pc := 37) dX10_letterOf_37 ?_
        refine rj_isub (pc := 38) dX10_letterOf_38 ?_
        refine r_ireturn (pc := 39) .int dX10_letterOf_39 rfl (by first | rfl | assumption) ?_
        first | (exfalso; omega) | exact ⟨by unfold letV; rw [if_neg (by omega)], rfl⟩ | exact ⟨by unfold letV; rw [if_pos (by omega), if_pos (by assumption)], rfl⟩ | exact ⟨by unfold letV; rw [if_pos (by omega), if_neg (by assumption)], rfl⟩
      · try simp only [b01_0, bz_0, Classical.not_not] at c_26
        refine rj_iconst (pc := 29) dX10_letterOf_29 ?_
        refine r_goto (pc := 30) (tgt := 39) dX10_letterOf_30 (by decide) ?_
        refine r_ireturn (pc := 39) .int dX10_letterOf_39 rfl (by first | rfl | assumption) ?_
        first | (exfalso; omega) | exact ⟨by unfold letV; rw [if_neg (by omega)], rfl⟩ | exact ⟨by unfold letV; rw [if_pos (by omega), if_pos (by assumption)], rfl⟩ | exact ⟨by unfold letV; rw [if_pos (by omega), if_neg (by assumption)], rfl⟩
    · refine rj_iconst (pc := 10) dX10_letterOf_10 ?_
      refine r_ireturn (pc := 11) .int dX10_letterOf_11 rfl (by first | rfl | assumption) ?_
      first | (exfalso; omega) | exact ⟨by unfold letV; rw [if_neg (by omega)], rfl⟩ | exact ⟨by unfold letV; rw [if_pos (by omega), if_pos (by assumption)], rfl⟩ | exact ⟨by unfold letV; rw [if_pos (by omega), if_neg (by assumption)], rfl⟩
noncomputable def lnL (y : Int64) : Nat → Nat → Int
  | 0, t => t
  | n + 1, t => if letV y t = 0 then (t : Int) else lnL y n (t + 1)
set_option maxHeartbeats 4000000 in
set_option maxRecDepth 100000 in
theorem L_lettersOf {G : mG} {l : Launch} (d : Nat) {h : mH} {y : Int64} : ∀ n t : Nat, t + n = 7 → RUN G l (d + 1) mX10_lettersOf 2 [some (.long y), none, some (.int (J (t : Int)))] [] h (fun v h' => v = some (.int (J (lnL y n t))) ∧ h' = h) := by
  intro n
  induction n with
  | zero =>
    intro t ht
    refine r_iload_n (pc := 2) dX10_lettersOf_2 rfl ?_
    refine rj_bipush (pc := 3) dX10_lettersOf_3 (by decide +kernel) ?_
    refine rj_icmp_ge (pc := 5) (tgt := 22) dX10_lettersOf_5 (by decide) (by first | exact b01_r | exact bz_r | omega | (constructor <;> omega) | apply_assumption | (apply atF_r; assumption) | fail "no range") (by first | exact b01_r | exact bz_r | omega | (constructor <;> omega) | apply_assumption | (apply atF_r; assumption) | fail "no range") (fun c_5 => ?_) (fun c_5 => ?_)
    · refine r_iload_n (pc := 22) dX10_lettersOf_22 rfl ?_
      refine r_ireturn (pc := 23) .int dX10_lettersOf_23 rfl (by first | rfl | assumption) ?_
      exact ⟨rfl, rfl⟩
    · exfalso; omega
  | succ n ih =>
    intro t ht
    refine r_iload_n (pc := 2) dX10_lettersOf_2 rfl ?_
    refine rj_bipush (pc := 3) dX10_lettersOf_3 (by decide +kernel) ?_
    refine rj_icmp_ge (pc := 5) (tgt := 22) dX10_lettersOf_5 (by decide) (by first | exact b01_r | exact bz_r | omega | (constructor <;> omega) | apply_assumption | (apply atF_r; assumption) | fail "no range") (by first | exact b01_r | exact bz_r | omega | (constructor <;> omega) | apply_assumption | (apply atF_r; assumption) | fail "no range") (fun c_5 => ?_) (fun c_5 => ?_)
    · refine r_iload_n (pc := 22) dX10_lettersOf_22 rfl ?_
      refine r_ireturn (pc := 23) .int dX10_lettersOf_23 rfl (by first | rfl | assumption) ?_
      first | (exfalso; omega) | exact ⟨by rw [lnL, if_pos c_13], rfl⟩
    · refine r_lload_n (pc := 8) dX10_lettersOf_8 rfl ?_
      refine r_iload_n (pc := 9) dX10_lettersOf_9 rfl ?_
      refine r_callS2 (pc := 10) dX10_lettersOf_10 qX10_letterOf kX10_190 sX10_letterOf (Nat.le_of_ble_eq_true rfl) (cz_letterOf _ (y := y) (i := (t : Int)) ⟨by omega, by omega⟩) (fun v_10 h_10 q_10 => ?_)
      obtain ⟨rfl, rfl⟩ := q_10
      have ro := letV_r y (t : Int)
      refine rj_if_eq (pc := 13) (tgt := 22) dX10_lettersOf_13 (by decide) (by first | exact b01_r | exact bz_r | omega | (constructor <;> omega) | apply_assumption | (apply atF_r; assumption) | fail "no range") (fun c_13 => ?_) (fun c_13 => ?_)
      · try simp only [b01_0, bz_0, Classical.not_not] at c_13
        refine r_iload_n (pc := 22) dX10_lettersOf_22 rfl ?_
        refine r_ireturn (pc := 23) .int dX10_lettersOf_23 rfl (by first | rfl | assumption) ?_
        first | (exfalso; omega) | exact ⟨by rw [lnL, if_pos c_13], rfl⟩
      · try simp only [b01_0, bz_0, Classical.not_not] at c_13
        refine rj_iinc (pc := 16) dX10_lettersOf_16 (Nat.le_of_ble_eq_true rfl) rfl ?_
        dsimp only [lsSt, List.set, mLs, mEnt]
        refine r_goto (pc := 19) (tgt := 2) dX10_lettersOf_19 (by decide) ?_
        have z := ih (t + 1) (by omega)
        rw [show ((t + 1 : Nat) : Int) = (t : Int) + 1 by omega] at z
        rw [lnL, if_neg c_13]
        exact z
set_option maxHeartbeats 4000000 in
set_option maxRecDepth 100000 in
theorem cz_lettersOf {G : mG} {l : Launch} (d : Nat) {h : mH} {y : Int64} : RUNM G l (d + 1) mX10_lettersOf [.long y] h (fun v h' => v = some (.int (J (lnL y 7 0))) ∧ h' = h) := by
  refine RUNM.of (by decide +kernel) (Nat.le_of_ble_eq_true rfl) ?_
  refine rj_iconst (pc := 0) dX10_lettersOf_0 ?_
  refine r_istore_n (pc := 1) dX10_lettersOf_1 (Nat.le_of_ble_eq_true rfl) ?_
  dsimp only [lsSt, List.set, mLs, mEnt]
  exact L_lettersOf d 7 0 (by omega)
noncomputable def lessL (y : Int64) (z : Int) (f : Nat → Int) : Nat → Nat → Bool
  | 0, _ => false
  | n + 1, t => if letV y t = atF 120 z f t then lessL y z f n (t + 1) else decide (letV y t < atF 120 z f t)
set_option maxHeartbeats 4000000 in
set_option maxRecDepth 100000 in
theorem L_isLess {G : mG} {l : Launch} (d : Nat) {h : mH} {y : Int64} {a : Nat} {z : Int} {f : Nat → Int} (I : isI h a 120 z f) (hz : InR z) (hf : ∀ q, InR (f q)) : ∀ (n t : Nat) (o0 : Option Value), t + n = 8 → RUN G l (d + 2) mX9_isLess 2 [some (.long y), none, some (.ref a), some (.int (J (t : Int))), o0] [] h (fun v h' => v = some (.int (J (bz (lessL y z f n t)))) ∧ h' = h) := by
  intro n
  induction n with
  | zero =>
    intro t o0 ht
    refine r_iload_n (pc := 2) dX9_isLess_2 rfl ?_
    refine rj_bipush (pc := 3) dX9_isLess_3 (by decide +kernel) ?_
    refine rj_icmp_gt (pc := 5) (tgt := 47) dX9_isLess_5 (by decide) (by first | exact b01_r | exact bz_r | omega | (constructor <;> omega) | apply_assumption | (apply atF_r; assumption) | fail "no range") (by first | exact b01_r | exact bz_r | omega | (constructor <;> omega) | apply_assumption | (apply atF_r; assumption) | fail "no range") (fun c_5 => ?_) (fun c_5 => ?_)
    · refine rj_iconst (pc := 47) dX9_isLess_47 ?_
      refine r_ireturn (pc := 48) .boolean dX9_isLess_48 rfl (by first | exact nar_J0 | exact nar_J1 | exact nar_b01 | exact nar_bz) ?_
      exact ⟨rfl, rfl⟩
    · exfalso; omega
  | succ n ih =>
    intro t o0 ht
    refine r_iload_n (pc := 2) dX9_isLess_2 rfl ?_
    refine rj_bipush (pc := 3) dX9_isLess_3 (by decide +kernel) ?_
    refine rj_icmp_gt (pc := 5) (tgt := 47) dX9_isLess_5 (by decide) (by first | exact b01_r | exact bz_r | omega | (constructor <;> omega) | apply_assumption | (apply atF_r; assumption) | fail "no range") (by first | exact b01_r | exact bz_r | omega | (constructor <;> omega) | apply_assumption | (apply atF_r; assumption) | fail "no range") (fun c_5 => ?_) (fun c_5 => ?_)
    · refine rj_iconst (pc := 47) dX9_isLess_47 ?_
      refine r_ireturn (pc := 48) .boolean dX9_isLess_48 rfl (by first | exact nar_J0 | exact nar_J1 | exact nar_b01 | exact nar_bz) ?_
      first | (exfalso; omega) | exact ⟨by rw [lessL, if_neg c_22, decide_eq_true (by omega)]; rfl, rfl⟩ | exact ⟨by rw [lessL, if_neg c_22, decide_eq_false (by omega)]; rfl, rfl⟩
    · refine r_lload_n (pc := 8) dX9_isLess_8 rfl ?_
      refine r_iload_n (pc := 9) dX9_isLess_9 rfl ?_
      refine r_callS2 (pc := 10) dX9_isLess_10 qX10_letterOf kX9_176 sX10_letterOf (Nat.le_of_ble_eq_true rfl) (cz_letterOf _ (y := y) (i := (t : Int)) ⟨by omega, by omega⟩) (fun v_10 h_10 q_10 => ?_)
      obtain ⟨rfl, rfl⟩ := q_10
      have ro := letV_r y (t : Int)
      have rat := atF_r (n := 120) (z := z) (i := (t : Int)) hf
      refine r_istore (pc := 13) dX9_isLess_13 (Nat.le_of_ble_eq_true rfl) ?_
      dsimp only [lsSt, List.set, mLs, mEnt]
      refine r_iload (pc := 15) dX9_isLess_15 rfl ?_
      refine r_aload_n (pc := 17) dX9_isLess_17 rfl (by first | rfl | exact isRefV_rf _) ?_
      refine r_iload_n (pc := 18) dX9_isLess_18 rfl ?_
      refine r_callV1 (pc := 19) dX9_isLess_19 qX1_at kX9_147 vX1_at (by first | assumption | exact isI.gx (by assumption) | exact isI.gc (by assumption) | exact isW.gx (by assumption) | exact isW.gF (by assumption) | exact isW.gT (by assumption) (by omega) | exact isW.gS (by assumption) (by omega) | exact isW.gK (by assumption) (by omega) | exact isW.g1 (by assumption) | exact isW.g2 (by assumption) | exact isW.g3 (by assumption) | exact isI.gx (isW.i0 (by assumption)) | exact isI.gc (isW.i0 (by assumption)) | exact isI.gx (isW.i1 (by assumption)) | exact isI.gc (isW.i1 (by assumption)) | exact isI.gx (isW.i2 (by assumption)) | exact isI.gc (isW.i2 (by assumption)) | exact isI.gx (isW.i3 (by assumption)) | exact isI.gc (isW.i3 (by assumption)) | exact isI.gx (isW.i4 (by assumption)) | exact isI.gc (isW.i4 (by assumption)) | exact isI.gx (isW.i5 (by assumption)) | exact isI.gc (isW.i5 (by assumption)) | exact isR.gx (by assumption) | exact isRd.gx (by assumption) | exact isSp.gx (by assumption) | exact isI.gx (isR.i (by assumption)) | exact isI.gx (isRd.i (by assumption)) | exact isI.gc (isRd.i (by assumption)) | exact isI.gx (isSp.i (by assumption)) | exact isW.gx (isR.w (by assumption)) | exact isW.gF (isR.w (by assumption)) | fail "no such object") rfl rfl (Nat.le_of_ble_eq_true rfl) (ci_at _ I (by decide) hz (i := (t : Int)) ⟨by omega, by omega⟩) (fun v_19 h_19 q_19 => ?_)
      obtain ⟨rfl, rfl⟩ := q_19
      refine rj_icmp_eq (pc := 22) (tgt := 41) dX9_isLess_22 (by decide) (by first | exact b01_r | exact bz_r | omega | (constructor <;> omega) | apply_assumption | (apply atF_r; assumption) | fail "no range") (by first | exact b01_r | exact bz_r | omega | (constructor <;> omega) | apply_assumption | (apply atF_r; assumption) | fail "no range") (fun c_22 => ?_) (fun c_22 => ?_)
      · refine rj_iinc (pc := 41) dX9_isLess_41 (Nat.le_of_ble_eq_true rfl) rfl ?_
        dsimp only [lsSt, List.set, mLs, mEnt]
        refine r_goto (pc := 44) (tgt := 2) dX9_isLess_44 (by decide) ?_
        have e1 : ((t + 1 : Nat) : Int) = (t : Int) + 1 := by omega
        have z := fun o0 => ih (t + 1) o0 (by omega)
        simp only [e1] at z
        rw [lessL, if_pos c_22]
        exact z _
      · refine r_iload (pc := 25) dX9_isLess_25 rfl ?_
        refine r_aload_n (pc := 27) dX9_isLess_27 rfl (by first | rfl | exact isRefV_rf _) ?_
        refine r_iload_n (pc := 28) dX9_isLess_28 rfl ?_
        refine r_callV1 (pc := 29) dX9_isLess_29 qX1_at kX9_147 vX1_at (by first | assumption | exact isI.gx (by assumption) | exact isI.gc (by assumption) | exact isW.gx (by assumption) | exact isW.gF (by assumption) | exact isW.gT (by assumption) (by omega) | exact isW.gS (by assumption) (by omega) | exact isW.gK (by assumption) (by omega) | exact isW.g1 (by assumption) | exact isW.g2 (by assumption) | exact isW.g3 (by assumption) | exact isI.gx (isW.i0 (by assumption)) | exact isI.gc (isW.i0 (by assumption)) | exact isI.gx (isW.i1 (by assumption)) | exact isI.gc (isW.i1 (by assumption)) | exact isI.gx (isW.i2 (by assumption)) | exact isI.gc (isW.i2 (by assumption)) | exact isI.gx (isW.i3 (by assumption)) | exact isI.gc (isW.i3 (by assumption)) | exact isI.gx (isW.i4 (by assumption)) | exact isI.gc (isW.i4 (by assumption)) | exact isI.gx (isW.i5 (by assumption)) | exact isI.gc (isW.i5 (by assumption)) | exact isR.gx (by assumption) | exact isRd.gx (by assumption) | exact isSp.gx (by assumption) | exact isI.gx (isR.i (by assumption)) | exact isI.gx (isRd.i (by assumption)) | exact isI.gc (isRd.i (by assumption)) | exact isI.gx (isSp.i (by assumption)) | exact isW.gx (isR.w (by assumption)) | exact isW.gF (isR.w (by assumption)) | fail "no such object") rfl rfl (Nat.le_of_ble_eq_true rfl) (ci_at _ I (by decide) hz (i := (t : Int)) ⟨by omega, by omega⟩) (fun v_29 h_29 q_29 => ?_)
        obtain ⟨rfl, rfl⟩ := q_29
        refine rj_icmp_ge (pc := 32) (tgt := 39) dX9_isLess_32 (by decide) (by first | exact b01_r | exact bz_r | omega | (constructor <;> omega) | apply_assumption | (apply atF_r; assumption) | fail "no range") (by first | exact b01_r | exact bz_r | omega | (constructor <;> omega) | apply_assumption | (apply atF_r; assumption) | fail "no range") (fun c_32 => ?_) (fun c_32 => ?_)
        · refine rj_iconst (pc := 39) dX9_isLess_39 ?_
          refine r_ireturn (pc := 40) .boolean dX9_isLess_40 rfl (by first | exact nar_J0 | exact nar_J1 | exact nar_b01 | exact nar_bz) ?_
          first | (exfalso; omega) | exact ⟨by rw [lessL, if_neg c_22, decide_eq_true (by omega)]; rfl, rfl⟩ | exact ⟨by rw [lessL, if_neg c_22, decide_eq_false (by omega)]; rfl, rfl⟩
        · refine rj_iconst (pc := 35) dX9_isLess_35 ?_
          refine r_goto (pc := 36) (tgt := 40) dX9_isLess_36 (by decide) ?_
          refine r_ireturn (pc := 40) .boolean dX9_isLess_40 rfl (by first | exact nar_J0 | exact nar_J1 | exact nar_b01 | exact nar_bz) ?_
          first | (exfalso; omega) | exact ⟨by rw [lessL, if_neg c_22, decide_eq_true (by omega)]; rfl, rfl⟩ | exact ⟨by rw [lessL, if_neg c_22, decide_eq_false (by omega)]; rfl, rfl⟩
set_option maxHeartbeats 4000000 in
set_option maxRecDepth 100000 in
theorem cz_isLess {G : mG} {l : Launch} (d : Nat) {h : mH} {y : Int64} {a : Nat} {z : Int} {f : Nat → Int} (I : isI h a 120 z f) (hz : InR z) (hf : ∀ q, InR (f q)) : RUNM G l (d + 2) mX9_isLess [.long y, .ref a] h (fun v h' => v = some (.int (J (bz (lessL y z f 8 0)))) ∧ h' = h) := by
  refine RUNM.of (by decide +kernel) (Nat.le_of_ble_eq_true rfl) ?_
  refine rj_iconst (pc := 0) dX9_isLess_0 ?_
  refine r_istore_n (pc := 1) dX9_isLess_1 (Nat.le_of_ble_eq_true rfl) ?_
  dsimp only [lsSt, List.set, mLs, mEnt]
  exact L_isLess d I hz hf 8 0 _ (by omega)
noncomputable def hfL (c : Nat → Int) (nm : Nat → Int64) (L : Int64 → Bool) : Nat → Nat → Int → Int
  | 0, _, b => b
  | n + 1, t, b => hfL c nm L n (t + 1) (if c (32 + 3 * t) = 0 ∧ L (nm t) = false ∧ (b < 0 ∨ (nm t).toInt < (nm b.toNat).toInt) then (t : Int) else b)
set_option maxHeartbeats 4000000 in
set_option maxRecDepth 100000 in
theorem L_heldFrom {G : mG} {l : Launch} (d : Nat) {h : mH} {w : Nat} {c : Nat → Int} {C : Nat → Nat → Int} {nm : Nat → Int64} {g : Nat → Option Nat} (hW : isW h w c C nm g) (hc : ∀ q, InR (c q)) {N : Nat} (hN : c 0 = (N : Int)) (hcap : N ≤ 90) {a : Nat} {z : Int} {f : Nat → Int} (I : isI h a 120 z f) (hz : InR z) (hf : ∀ q, InR (f q)) : ∀ (n t : Nat) (b : Int), t + n = N → -5 ≤ b → b < t → RUN G l (d + 3) mX9_heldFrom 5 [some (.ref w), some (.ref a), some (.int (J b)), some (.int (J (t : Int)))] [] h (fun v h' => v = some (.int (J (hfL c nm (fun y => lessL y z f 8 0) n t b))) ∧ h' = h) := by
  intro n
  induction n with
  | zero =>
    intro t b ht hb1 hb2
    refine r_iload_n (pc := 5) dX9_heldFrom_5 rfl ?_
    refine r_aload_n (pc := 6) dX9_heldFrom_6 rfl (by first | rfl | exact isRefV_rf _) ?_
    refine r_getf (pc := 7) dX9_heldFrom_7 fX9_71 (by first | assumption | exact isI.gx (by assumption) | exact isI.gc (by assumption) | exact isW.gx (by assumption) | exact isW.gF (by assumption) | exact isW.gT (by assumption) (by omega) | exact isW.gS (by assumption) (by omega) | exact isW.gK (by assumption) (by omega) | exact isW.g1 (by assumption) | exact isW.g2 (by assumption) | exact isW.g3 (by assumption) | exact isI.gx (isW.i0 (by assumption)) | exact isI.gc (isW.i0 (by assumption)) | exact isI.gx (isW.i1 (by assumption)) | exact isI.gc (isW.i1 (by assumption)) | exact isI.gx (isW.i2 (by assumption)) | exact isI.gc (isW.i2 (by assumption)) | exact isI.gx (isW.i3 (by assumption)) | exact isI.gc (isW.i3 (by assumption)) | exact isI.gx (isW.i4 (by assumption)) | exact isI.gc (isW.i4 (by assumption)) | exact isI.gx (isW.i5 (by assumption)) | exact isI.gc (isW.i5 (by assumption)) | exact isR.gx (by assumption) | exact isRd.gx (by assumption) | exact isSp.gx (by assumption) | exact isI.gx (isR.i (by assumption)) | exact isI.gx (isRd.i (by assumption)) | exact isI.gc (isRd.i (by assumption)) | exact isI.gx (isSp.i (by assumption)) | exact isW.gx (isR.w (by assumption)) | exact isW.gF (isR.w (by assumption)) | fail "no such object") (by rfl) ?_
    refine rj_icmp_ge (pc := 10) (tgt := 59) dX9_heldFrom_10 (by decide) (by first | exact b01_r | exact bz_r | omega | (constructor <;> omega) | apply_assumption | (apply atF_r; assumption) | fail "no range") (by first | exact b01_r | exact bz_r | omega | (constructor <;> omega) | apply_assumption | (apply atF_r; assumption) | fail "no range") (fun c_10 => ?_) (fun c_10 => ?_)
    · refine r_iload_n (pc := 59) dX9_heldFrom_59 rfl ?_
      refine r_ireturn (pc := 60) .int dX9_heldFrom_60 rfl (by first | rfl | assumption) ?_
      exact ⟨rfl, rfl⟩
    · exfalso; omega
  | succ n ih =>
    intro t b ht hb1 hb2
    have e1 : ((t + 1 : Nat) : Int) = (t : Int) + 1 := by omega
    refine r_iload_n (pc := 5) dX9_heldFrom_5 rfl ?_
    refine r_aload_n (pc := 6) dX9_heldFrom_6 rfl (by first | rfl | exact isRefV_rf _) ?_
    refine r_getf (pc := 7) dX9_heldFrom_7 fX9_71 (by first | assumption | exact isI.gx (by assumption) | exact isI.gc (by assumption) | exact isW.gx (by assumption) | exact isW.gF (by assumption) | exact isW.gT (by assumption) (by omega) | exact isW.gS (by assumption) (by omega) | exact isW.gK (by assumption) (by omega) | exact isW.g1 (by assumption) | exact isW.g2 (by assumption) | exact isW.g3 (by assumption) | exact isI.gx (isW.i0 (by assumption)) | exact isI.gc (isW.i0 (by assumption)) | exact isI.gx (isW.i1 (by assumption)) | exact isI.gc (isW.i1 (by assumption)) | exact isI.gx (isW.i2 (by assumption)) | exact isI.gc (isW.i2 (by assumption)) | exact isI.gx (isW.i3 (by assumption)) | exact isI.gc (isW.i3 (by assumption)) | exact isI.gx (isW.i4 (by assumption)) | exact isI.gc (isW.i4 (by assumption)) | exact isI.gx (isW.i5 (by assumption)) | exact isI.gc (isW.i5 (by assumption)) | exact isR.gx (by assumption) | exact isRd.gx (by assumption) | exact isSp.gx (by assumption) | exact isI.gx (isR.i (by assumption)) | exact isI.gx (isRd.i (by assumption)) | exact isI.gc (isRd.i (by assumption)) | exact isI.gx (isSp.i (by assumption)) | exact isW.gx (isR.w (by assumption)) | exact isW.gF (isR.w (by assumption)) | fail "no such object") (by rfl) ?_
    refine rj_icmp_ge (pc := 10) (tgt := 59) dX9_heldFrom_10 (by decide) (by first | exact b01_r | exact bz_r | omega | (constructor <;> omega) | apply_assumption | (apply atF_r; assumption) | fail "no range") (by first | exact b01_r | exact bz_r | omega | (constructor <;> omega) | apply_assumption | (apply atF_r; assumption) | fail "no range") (fun c_10 => ?_) (fun c_10 => ?_)
    · refine r_iload_n (pc := 59) dX9_heldFrom_59 rfl ?_
      refine r_ireturn (pc := 60) .int dX9_heldFrom_60 rfl (by first | rfl | assumption) ?_
      exfalso; omega
    · refine r_aload_n (pc := 13) dX9_heldFrom_13 rfl (by first | rfl | exact isRefV_rf _) ?_
      refine r_iload_n (pc := 14) dX9_heldFrom_14 rfl ?_
      refine r_callV1 (pc := 15) dX9_heldFrom_15 qX9_isHeld kX9_157 vX9_isHeld (by first | assumption | exact isI.gx (by assumption) | exact isI.gc (by assumption) | exact isW.gx (by assumption) | exact isW.gF (by assumption) | exact isW.gT (by assumption) (by omega) | exact isW.gS (by assumption) (by omega) | exact isW.gK (by assumption) (by omega) | exact isW.g1 (by assumption) | exact isW.g2 (by assumption) | exact isW.g3 (by assumption) | exact isI.gx (isW.i0 (by assumption)) | exact isI.gc (isW.i0 (by assumption)) | exact isI.gx (isW.i1 (by assumption)) | exact isI.gc (isW.i1 (by assumption)) | exact isI.gx (isW.i2 (by assumption)) | exact isI.gc (isW.i2 (by assumption)) | exact isI.gx (isW.i3 (by assumption)) | exact isI.gc (isW.i3 (by assumption)) | exact isI.gx (isW.i4 (by assumption)) | exact isI.gc (isW.i4 (by assumption)) | exact isI.gx (isW.i5 (by assumption)) | exact isI.gc (isW.i5 (by assumption)) | exact isR.gx (by assumption) | exact isRd.gx (by assumption) | exact isSp.gx (by assumption) | exact isI.gx (isR.i (by assumption)) | exact isI.gx (isRd.i (by assumption)) | exact isI.gc (isRd.i (by assumption)) | exact isI.gx (isSp.i (by assumption)) | exact isW.gx (isR.w (by assumption)) | exact isW.gF (isR.w (by assumption)) | fail "no such object") rfl rfl (Nat.le_of_ble_eq_true rfl) (cn_isHeld _ hW hc (t := t) (by omega) (by omega)) (fun v_15 h_15 q_15 => ?_)
      obtain ⟨rfl, rfl⟩ := q_15
      refine rj_if_eq (pc := 18) (tgt := 53) dX9_heldFrom_18 (by decide) (by first | exact b01_r | exact bz_r | omega | (constructor <;> omega) | apply_assumption | (apply atF_r; assumption) | fail "no range") (fun c_18 => ?_) (fun c_18 => ?_)
      · try simp only [b01_0, bz_0, Classical.not_not] at c_18
        refine rj_iinc (pc := 53) dX9_heldFrom_53 (Nat.le_of_ble_eq_true rfl) rfl ?_
        dsimp only [lsSt, List.set, mLs, mEnt]
        refine r_goto (pc := 56) (tgt := 5) dX9_heldFrom_56 (by decide) ?_
        rw [hfL, if_neg (fun g => c_18 g.1)]
        have z := ih (t + 1) b (by omega) (by omega) (by omega)
        rw [e1] at z
        exact z
      · try simp only [b01_0, bz_0, Classical.not_not] at c_18
        refine r_aload_n (pc := 21) dX9_heldFrom_21 rfl (by first | rfl | exact isRefV_rf _) ?_
        refine r_iload_n (pc := 22) dX9_heldFrom_22 rfl ?_
        refine r_callV1 (pc := 23) dX9_heldFrom_23 qX9_nameOf kX9_168 vX9_nameOf (by first | assumption | exact isI.gx (by assumption) | exact isI.gc (by assumption) | exact isW.gx (by assumption) | exact isW.gF (by assumption) | exact isW.gT (by assumption) (by omega) | exact isW.gS (by assumption) (by omega) | exact isW.gK (by assumption) (by omega) | exact isW.g1 (by assumption) | exact isW.g2 (by assumption) | exact isW.g3 (by assumption) | exact isI.gx (isW.i0 (by assumption)) | exact isI.gc (isW.i0 (by assumption)) | exact isI.gx (isW.i1 (by assumption)) | exact isI.gc (isW.i1 (by assumption)) | exact isI.gx (isW.i2 (by assumption)) | exact isI.gc (isW.i2 (by assumption)) | exact isI.gx (isW.i3 (by assumption)) | exact isI.gc (isW.i3 (by assumption)) | exact isI.gx (isW.i4 (by assumption)) | exact isI.gc (isW.i4 (by assumption)) | exact isI.gx (isW.i5 (by assumption)) | exact isI.gc (isW.i5 (by assumption)) | exact isR.gx (by assumption) | exact isRd.gx (by assumption) | exact isSp.gx (by assumption) | exact isI.gx (isR.i (by assumption)) | exact isI.gx (isRd.i (by assumption)) | exact isI.gc (isRd.i (by assumption)) | exact isI.gx (isSp.i (by assumption)) | exact isW.gx (isR.w (by assumption)) | exact isW.gF (isR.w (by assumption)) | fail "no such object") rfl rfl (Nat.le_of_ble_eq_true rfl) (cn_nameOf _ hW hc (t := t) (by omega) (by omega)) (fun v_23 h_23 q_23 => ?_)
        obtain ⟨rfl, rfl⟩ := q_23
        refine r_aload_n (pc := 26) dX9_heldFrom_26 rfl (by first | rfl | exact isRefV_rf _) ?_
        refine r_callS2 (pc := 27) dX9_heldFrom_27 qX9_isLess kX9_172 sX9_isLess (Nat.le_of_ble_eq_true rfl) (cz_isLess _ I hz hf (y := nm t)) (fun v_27 h_27 q_27 => ?_)
        obtain ⟨rfl, rfl⟩ := q_27
        refine rj_if_ne (pc := 30) (tgt := 53) dX9_heldFrom_30 (by decide) (by first | exact b01_r | exact bz_r | omega | (constructor <;> omega) | apply_assumption | (apply atF_r; assumption) | fail "no range") (fun c_30 => ?_) (fun c_30 => ?_)
        · try simp only [b01_0, bz_0, Classical.not_not] at c_30
          refine rj_iinc (pc := 53) dX9_heldFrom_53 (Nat.le_of_ble_eq_true rfl) rfl ?_
          dsimp only [lsSt, List.set, mLs, mEnt]
          refine r_goto (pc := 56) (tgt := 5) dX9_heldFrom_56 (by decide) ?_
          rw [hfL, if_neg (fun g => absurd (g.2.1.symm.trans c_30) (by decide))]
          have z := ih (t + 1) b (by omega) (by omega) (by omega)
          rw [e1] at z
          exact z
        · try simp only [b01_0, bz_0, Classical.not_not] at c_30
          refine r_iload_n (pc := 33) dX9_heldFrom_33 rfl ?_
          refine rj_if_lt (pc := 34) (tgt := 51) dX9_heldFrom_34 (by decide) (by first | exact b01_r | exact bz_r | omega | (constructor <;> omega) | apply_assumption | (apply atF_r; assumption) | fail "no range") (fun c_34 => ?_) (fun c_34 => ?_)
          · refine r_iload_n (pc := 51) dX9_heldFrom_51 rfl ?_
            refine r_istore_n (pc := 52) dX9_heldFrom_52 (Nat.le_of_ble_eq_true rfl) ?_
            dsimp only [lsSt, List.set, mLs, mEnt]
            refine rj_iinc (pc := 53) dX9_heldFrom_53 (Nat.le_of_ble_eq_true rfl) rfl ?_
            dsimp only [lsSt, List.set, mLs, mEnt]
            refine r_goto (pc := 56) (tgt := 5) dX9_heldFrom_56 (by decide) ?_
            rw [hfL, if_pos (⟨c_18, (Bool.not_eq_true _).mp c_30, Or.inl (by omega)⟩)]
            have z := ih (t + 1) (t : Int) (by omega) (by omega) (by omega)
            rw [e1] at z
            exact z
          · refine r_aload_n (pc := 37) dX9_heldFrom_37 rfl (by first | rfl | exact isRefV_rf _) ?_
            refine r_iload_n (pc := 38) dX9_heldFrom_38 rfl ?_
            refine r_callV1 (pc := 39) dX9_heldFrom_39 qX9_nameOf kX9_168 vX9_nameOf (by first | assumption | exact isI.gx (by assumption) | exact isI.gc (by assumption) | exact isW.gx (by assumption) | exact isW.gF (by assumption) | exact isW.gT (by assumption) (by omega) | exact isW.gS (by assumption) (by omega) | exact isW.gK (by assumption) (by omega) | exact isW.g1 (by assumption) | exact isW.g2 (by assumption) | exact isW.g3 (by assumption) | exact isI.gx (isW.i0 (by assumption)) | exact isI.gc (isW.i0 (by assumption)) | exact isI.gx (isW.i1 (by assumption)) | exact isI.gc (isW.i1 (by assumption)) | exact isI.gx (isW.i2 (by assumption)) | exact isI.gc (isW.i2 (by assumption)) | exact isI.gx (isW.i3 (by assumption)) | exact isI.gc (isW.i3 (by assumption)) | exact isI.gx (isW.i4 (by assumption)) | exact isI.gc (isW.i4 (by assumption)) | exact isI.gx (isW.i5 (by assumption)) | exact isI.gc (isW.i5 (by assumption)) | exact isR.gx (by assumption) | exact isRd.gx (by assumption) | exact isSp.gx (by assumption) | exact isI.gx (isR.i (by assumption)) | exact isI.gx (isRd.i (by assumption)) | exact isI.gc (isRd.i (by assumption)) | exact isI.gx (isSp.i (by assumption)) | exact isW.gx (isR.w (by assumption)) | exact isW.gF (isR.w (by assumption)) | fail "no such object") rfl rfl (Nat.le_of_ble_eq_true rfl) (cn_nameOf _ hW hc (t := t) (by omega) (by omega)) (fun v_39 h_39 q_39 => ?_)
            obtain ⟨rfl, rfl⟩ := q_39
            refine r_aload_n (pc := 42) dX9_heldFrom_42 rfl (by first | rfl | exact isRefV_rf _) ?_
            refine r_iload_n (pc := 43) dX9_heldFrom_43 rfl ?_
            obtain ⟨b, rfl⟩ : ∃ q : Nat, b = (q : Int) := ⟨b.toNat, by omega⟩
            refine r_callV1 (pc := 44) dX9_heldFrom_44 qX9_nameOf kX9_168 vX9_nameOf (by first | assumption | exact isI.gx (by assumption) | exact isI.gc (by assumption) | exact isW.gx (by assumption) | exact isW.gF (by assumption) | exact isW.gT (by assumption) (by omega) | exact isW.gS (by assumption) (by omega) | exact isW.gK (by assumption) (by omega) | exact isW.g1 (by assumption) | exact isW.g2 (by assumption) | exact isW.g3 (by assumption) | exact isI.gx (isW.i0 (by assumption)) | exact isI.gc (isW.i0 (by assumption)) | exact isI.gx (isW.i1 (by assumption)) | exact isI.gc (isW.i1 (by assumption)) | exact isI.gx (isW.i2 (by assumption)) | exact isI.gc (isW.i2 (by assumption)) | exact isI.gx (isW.i3 (by assumption)) | exact isI.gc (isW.i3 (by assumption)) | exact isI.gx (isW.i4 (by assumption)) | exact isI.gc (isW.i4 (by assumption)) | exact isI.gx (isW.i5 (by assumption)) | exact isI.gc (isW.i5 (by assumption)) | exact isR.gx (by assumption) | exact isRd.gx (by assumption) | exact isSp.gx (by assumption) | exact isI.gx (isR.i (by assumption)) | exact isI.gx (isRd.i (by assumption)) | exact isI.gc (isRd.i (by assumption)) | exact isI.gx (isSp.i (by assumption)) | exact isW.gx (isR.w (by assumption)) | exact isW.gF (isR.w (by assumption)) | fail "no such object") rfl rfl (Nat.le_of_ble_eq_true rfl) (cn_nameOf _ hW hc (t := b) (by omega) (by omega)) (fun v_44 h_44 q_44 => ?_)
            obtain ⟨rfl, rfl⟩ := q_44
            refine rj_lcmpE (pc := 47) dX9_heldFrom_47 ?_
            have rr := lcV_r (x := nm t) (y := nm b)
            refine rj_if_ge (pc := 48) (tgt := 53) dX9_heldFrom_48 (by decide) (by first | exact b01_r | exact bz_r | omega | (constructor <;> omega) | apply_assumption | (apply atF_r; assumption) | fail "no range") (fun c_48 => ?_) (fun c_48 => ?_)
            · refine rj_iinc (pc := 53) dX9_heldFrom_53 (Nat.le_of_ble_eq_true rfl) rfl ?_
              dsimp only [lsSt, List.set, mLs, mEnt]
              refine r_goto (pc := 56) (tgt := 5) dX9_heldFrom_56 (by decide) ?_
              rw [hfL, if_neg (fun g => g.2.2.elim (fun z => absurd z (by omega)) (fun z => absurd (show lcV (nm t) (nm b) < 0 from lcV_n.mpr z) (by omega)))]
              have z := ih (t + 1) b (by omega) (by omega) (by omega)
              rw [e1] at z
              exact z
            · refine r_iload_n (pc := 51) dX9_heldFrom_51 rfl ?_
              refine r_istore_n (pc := 52) dX9_heldFrom_52 (Nat.le_of_ble_eq_true rfl) ?_
              dsimp only [lsSt, List.set, mLs, mEnt]
              refine rj_iinc (pc := 53) dX9_heldFrom_53 (Nat.le_of_ble_eq_true rfl) rfl ?_
              dsimp only [lsSt, List.set, mLs, mEnt]
              refine r_goto (pc := 56) (tgt := 5) dX9_heldFrom_56 (by decide) ?_
              rw [hfL, if_pos (⟨c_18, (Bool.not_eq_true _).mp c_30, Or.inr (lcV_n.mp (show lcV (nm t) (nm b) < 0 by omega))⟩)]
              have z := ih (t + 1) (t : Int) (by omega) (by omega) (by omega)
              rw [e1] at z
              exact z
set_option maxHeartbeats 4000000 in
set_option maxRecDepth 100000 in
theorem cq_heldFrom {G : mG} {l : Launch} (d : Nat) {h : mH} {w : Nat} {c : Nat → Int} {C : Nat → Nat → Int} {nm : Nat → Int64} {g : Nat → Option Nat} (hW : isW h w c C nm g) (hc : ∀ q, InR (c q)) {N : Nat} (hN : c 0 = (N : Int)) (hcap : N ≤ 90) {a : Nat} {z : Int} {f : Nat → Int} (I : isI h a 120 z f) (hz : InR z) (hf : ∀ q, InR (f q)) : RUNM G l (d + 3) mX9_heldFrom [.ref w, .ref a] h (fun v h' => v = some (.int (J (hfL c nm (fun y => lessL y z f 8 0) N 0 (-5)))) ∧ h' = h) := by
  refine RUNM.of (by decide +kernel) (Nat.le_of_ble_eq_true rfl) ?_
  refine rj_bipush (pc := 0) dX9_heldFrom_0 (by decide +kernel) ?_
  refine r_istore_n (pc := 2) dX9_heldFrom_2 (Nat.le_of_ble_eq_true rfl) ?_
  dsimp only [lsSt, List.set, mLs, mEnt]
  refine rj_iconst (pc := 3) dX9_heldFrom_3 ?_
  refine r_istore_n (pc := 4) dX9_heldFrom_4 (Nat.le_of_ble_eq_true rfl) ?_
  dsimp only [lsSt, List.set, mLs, mEnt]
  exact L_heldFrom d hW hc hN hcap I hz hf N 0 (-5) (by omega) (by omega) (by omega)
end mg_90
section mg_91
/-! ===== the class: what changes its world ===== -/
noncomputable def stO (kd num vl : Int) (y : Int64) (inn nx : Option Nat) : mO := .inl (6, [.int (J kd), .int (J num), .int (J vl), .long y, va_rf inn, va_rf nx])
theorem Same.at {P : Nat → Prop} {h h' : mH} (S : Same P h h') {b : Nat} {o : mO} (hb : ¬ P b) (e : hGet h b = some o) : hGet h' b = some o := (S.2.2.2 b hb).trans e
def adC (c : Nat → Int) (N : Nat) (o : Int) : Nat → Int := updI (updI (updI (updI c 0 ((N : Int) + 1)) (32 + 3 * N) 0) (33 + 3 * N) o) (34 + 3 * N) (-5)
def adE (c : Nat → Int) (z : Nat) : Nat → Int := updI c 10 ((z : Int) + 1)
theorem updI_R {c : Nat → Int} (hc : ∀ q, InR (c q)) {k : Nat} {v : Int} (hv : InR v) : ∀ q, InR (updI c k v q) := updI_r hc hv
set_option maxHeartbeats 4000000 in
set_option maxRecDepth 100000 in
theorem cq_addThing {G : mG} {l : Launch} (d : Nat) {h : mH} {w : Nat} {c : Nat → Int} {C : Nat → Nat → Int} {nm : Nat → Int64} {g : Nat → Option Nat} (hW : isW h w c C nm g) (hc : ∀ q, InR (c q)) {N Z : Nat} (hN : c 0 = (N : Int)) (hcap : N < 90) (hZ : c 10 = (Z : Int)) (hcapZ : Z < 150) {s : Nat} {kd num vl : Int} {y : Int64} {inn nx : Option Nat} (hs : hGet h s = some (stO kd num vl y inn nx)) (hsw : ¬ wBlk w s) {o : Int} (ho : InR o) : RUNM G l (d + 1) mX9_addThing [.ref w, .ref s, .int (J o)] h (fun v h' => v = some (.int (J (N : Int))) ∧ isW h' w (adE (adC c N o) Z) (updC C 2 (updI (C 2) Z (N : Int))) (updL nm N y) (updO g (2 * N) inn) ∧ Same (wBlk w) h h') := by
  refine RUNM.of (by decide +kernel) (Nat.le_of_ble_eq_true rfl) ?_
  refine r_aload_n (pc := 0) dX9_addThing_0 rfl (by first | rfl | exact isRefV_rf _) ?_
  refine r_getf (pc := 1) dX9_addThing_1 fX9_71 (by first | assumption | exact isI.gx (by assumption) | exact isI.gc (by assumption) | exact isW.gx (by assumption) | exact isW.gF (by assumption) | exact isW.gT (by assumption) (by omega) | exact isW.gS (by assumption) (by omega) | exact isW.gK (by assumption) (by omega) | exact isW.g1 (by assumption) | exact isW.g2 (by assumption) | exact isW.g3 (by assumption) | exact isI.gx (isW.i0 (by assumption)) | exact isI.gc (isW.i0 (by assumption)) | exact isI.gx (isW.i1 (by assumption)) | exact isI.gc (isW.i1 (by assumption)) | exact isI.gx (isW.i2 (by assumption)) | exact isI.gc (isW.i2 (by assumption)) | exact isI.gx (isW.i3 (by assumption)) | exact isI.gc (isW.i3 (by assumption)) | exact isI.gx (isW.i4 (by assumption)) | exact isI.gc (isW.i4 (by assumption)) | exact isI.gx (isW.i5 (by assumption)) | exact isI.gc (isW.i5 (by assumption)) | exact isR.gx (by assumption) | exact isRd.gx (by assumption) | exact isSp.gx (by assumption) | exact isI.gx (isR.i (by assumption)) | exact isI.gx (isRd.i (by assumption)) | exact isI.gc (isRd.i (by assumption)) | exact isI.gx (isSp.i (by assumption)) | exact isW.gx (isR.w (by assumption)) | exact isW.gF (isR.w (by assumption)) | fail "no such object") (by rfl) ?_
  rw [hN]
  refine r_istore_n (pc := 4) dX9_addThing_4 (Nat.le_of_ble_eq_true rfl) ?_
  dsimp only [lsSt, List.set, mLs, mEnt]
  refine r_aload_n (pc := 5) dX9_addThing_5 rfl (by first | rfl | exact isRefV_rf _) ?_
  refine r_dup (pc := 6) dX9_addThing_6 (by first | rfl | (cases ‹Option Nat› <;> rfl)) ?_
  refine r_getf (pc := 7) dX9_addThing_7 fX9_71 (by first | assumption | exact isI.gx (by assumption) | exact isI.gc (by assumption) | exact isW.gx (by assumption) | exact isW.gF (by assumption) | exact isW.gT (by assumption) (by omega) | exact isW.gS (by assumption) (by omega) | exact isW.gK (by assumption) (by omega) | exact isW.g1 (by assumption) | exact isW.g2 (by assumption) | exact isW.g3 (by assumption) | exact isI.gx (isW.i0 (by assumption)) | exact isI.gc (isW.i0 (by assumption)) | exact isI.gx (isW.i1 (by assumption)) | exact isI.gc (isW.i1 (by assumption)) | exact isI.gx (isW.i2 (by assumption)) | exact isI.gc (isW.i2 (by assumption)) | exact isI.gx (isW.i3 (by assumption)) | exact isI.gc (isW.i3 (by assumption)) | exact isI.gx (isW.i4 (by assumption)) | exact isI.gc (isW.i4 (by assumption)) | exact isI.gx (isW.i5 (by assumption)) | exact isI.gc (isW.i5 (by assumption)) | exact isR.gx (by assumption) | exact isRd.gx (by assumption) | exact isSp.gx (by assumption) | exact isI.gx (isR.i (by assumption)) | exact isI.gx (isRd.i (by assumption)) | exact isI.gc (isRd.i (by assumption)) | exact isI.gx (isSp.i (by assumption)) | exact isW.gx (isR.w (by assumption)) | exact isW.gF (isR.w (by assumption)) | fail "no such object") (by rfl) ?_
  rw [hN]
  refine rj_iconst (pc := 10) dX9_addThing_10 ?_
  refine rj_iadd (pc := 11) dX9_addThing_11 ?_
  refine rc_putw0 (pc := 12) dX9_addThing_12 fX9_71 (by assumption) (fun h_12 hW_12 hS_12 => ?_)
  have hc2 := updI_r hc (k := 0) (v := (N : Int) + 1) ⟨by omega, by omega⟩
  have e1 : updI c 0 ((N : Int) + 1) 0 = (N : Int) + 1 := updI_s
  refine r_aload_n (pc := 15) dX9_addThing_15 rfl (by first | rfl | exact isRefV_rf _) ?_
  refine r_iload_n (pc := 16) dX9_addThing_16 rfl ?_
  refine r_callV1 (pc := 17) dX9_addThing_17 qX9_thingAt kX9_96 vX9_thingAt (by first | assumption | exact isI.gx (by assumption) | exact isI.gc (by assumption) | exact isW.gx (by assumption) | exact isW.gF (by assumption) | exact isW.gT (by assumption) (by omega) | exact isW.gS (by assumption) (by omega) | exact isW.gK (by assumption) (by omega) | exact isW.g1 (by assumption) | exact isW.g2 (by assumption) | exact isW.g3 (by assumption) | exact isI.gx (isW.i0 (by assumption)) | exact isI.gc (isW.i0 (by assumption)) | exact isI.gx (isW.i1 (by assumption)) | exact isI.gc (isW.i1 (by assumption)) | exact isI.gx (isW.i2 (by assumption)) | exact isI.gc (isW.i2 (by assumption)) | exact isI.gx (isW.i3 (by assumption)) | exact isI.gc (isW.i3 (by assumption)) | exact isI.gx (isW.i4 (by assumption)) | exact isI.gc (isW.i4 (by assumption)) | exact isI.gx (isW.i5 (by assumption)) | exact isI.gc (isW.i5 (by assumption)) | exact isR.gx (by assumption) | exact isRd.gx (by assumption) | exact isSp.gx (by assumption) | exact isI.gx (isR.i (by assumption)) | exact isI.gx (isRd.i (by assumption)) | exact isI.gc (isRd.i (by assumption)) | exact isI.gx (isSp.i (by assumption)) | exact isW.gx (isR.w (by assumption)) | exact isW.gF (isR.w (by assumption)) | fail "no such object") rfl rfl (Nat.le_of_ble_eq_true rfl) (cw_thingAt _ hW_12 hc2 (i := (N : Int)) ⟨by omega, by omega⟩) (fun v_17 h_17 q_17 => ?_)
  obtain ⟨q1_17, rfl⟩ := q_17
  · obtain rfl := thAt_P (by omega) q1_17
    refine r_astore (pc := 20) dX9_addThing_20 (Nat.le_of_ble_eq_true rfl) (by first | rfl | exact isRefV_rf _) ?_
    dsimp only [lsSt, List.set, mLs, mEnt]
    refine r_aload (pc := 22) dX9_addThing_22 rfl (by first | rfl | exact isRefV_rf _) ?_
    refine r_ifnonnull (pc := 24) (tgt := 34) dX9_addThing_24 (by decide) (by first | rfl | exact isRefV_rf _) (fun a_24 c_24 => ?_) (fun c_24 => by cases c_24)
    rw [Int.toNat_natCast]
    refine r_aload (pc := 34) dX9_addThing_34 rfl (by first | rfl | exact isRefV_rf _) ?_
    refine r_aload_n (pc := 36) dX9_addThing_36 rfl (by first | rfl | exact isRefV_rf _) ?_
    have s_12 := hS_12.at hsw hs
    unfold stO at s_12
    refine r_getf (pc := 37) dX9_addThing_37 fX9_100 (by first | assumption | exact isI.gx (by assumption) | exact isI.gc (by assumption) | exact isW.gx (by assumption) | exact isW.gF (by assumption) | exact isW.gT (by assumption) (by omega) | exact isW.gS (by assumption) (by omega) | exact isW.gK (by assumption) (by omega) | exact isW.g1 (by assumption) | exact isW.g2 (by assumption) | exact isW.g3 (by assumption) | exact isI.gx (isW.i0 (by assumption)) | exact isI.gc (isW.i0 (by assumption)) | exact isI.gx (isW.i1 (by assumption)) | exact isI.gc (isW.i1 (by assumption)) | exact isI.gx (isW.i2 (by assumption)) | exact isI.gc (isW.i2 (by assumption)) | exact isI.gx (isW.i3 (by assumption)) | exact isI.gc (isW.i3 (by assumption)) | exact isI.gx (isW.i4 (by assumption)) | exact isI.gc (isW.i4 (by assumption)) | exact isI.gx (isW.i5 (by assumption)) | exact isI.gc (isW.i5 (by assumption)) | exact isR.gx (by assumption) | exact isRd.gx (by assumption) | exact isSp.gx (by assumption) | exact isI.gx (isR.i (by assumption)) | exact isI.gx (isRd.i (by assumption)) | exact isI.gc (isRd.i (by assumption)) | exact isI.gx (isSp.i (by assumption)) | exact isW.gx (isR.w (by assumption)) | exact isW.gF (isR.w (by assumption)) | fail "no such object") (by rfl) ?_
    refine rc_putT0 (pc := 40) dX9_addThing_40 fX9_106 (by assumption) (by omega) (fun h_40 hW_40 hS_40 => ?_)
    refine r_aload (pc := 43) dX9_addThing_43 rfl (by first | rfl | exact isRefV_rf _) ?_
    refine r_aload_n (pc := 45) dX9_addThing_45 rfl (by first | rfl | exact isRefV_rf _) ?_
    have s_40 := (hS_12.trans hS_40).at hsw hs
    unfold stO at s_40
    refine r_getf (pc := 46) dX9_addThing_46 fX9_107 (by first | assumption | exact isI.gx (by assumption) | exact isI.gc (by assumption) | exact isW.gx (by assumption) | exact isW.gF (by assumption) | exact isW.gT (by assumption) (by omega) | exact isW.gS (by assumption) (by omega) | exact isW.gK (by assumption) (by omega) | exact isW.g1 (by assumption) | exact isW.g2 (by assumption) | exact isW.g3 (by assumption) | exact isI.gx (isW.i0 (by assumption)) | exact isI.gc (isW.i0 (by assumption)) | exact isI.gx (isW.i1 (by assumption)) | exact isI.gc (isW.i1 (by assumption)) | exact isI.gx (isW.i2 (by assumption)) | exact isI.gc (isW.i2 (by assumption)) | exact isI.gx (isW.i3 (by assumption)) | exact isI.gc (isW.i3 (by assumption)) | exact isI.gx (isW.i4 (by assumption)) | exact isI.gc (isW.i4 (by assumption)) | exact isI.gx (isW.i5 (by assumption)) | exact isI.gc (isW.i5 (by assumption)) | exact isR.gx (by assumption) | exact isRd.gx (by assumption) | exact isSp.gx (by assumption) | exact isI.gx (isR.i (by assumption)) | exact isI.gx (isRd.i (by assumption)) | exact isI.gc (isRd.i (by assumption)) | exact isI.gx (isSp.i (by assumption)) | exact isW.gx (isR.w (by assumption)) | exact isW.gF (isR.w (by assumption)) | fail "no such object") (by rfl) ?_
    refine rc_putT1 (pc := 49) dX9_addThing_49 fX9_111 (by assumption) (by omega) (fun h_49 hW_49 hS_49 => ?_)
    refine r_aload (pc := 52) dX9_addThing_52 rfl (by first | rfl | exact isRefV_rf _) ?_
    refine rj_iconst (pc := 54) dX9_addThing_54 ?_
    refine rc_putT3 (pc := 55) dX9_addThing_55 fX9_114 (by assumption) (by omega) (fun h_55 hW_55 hS_55 => ?_)
    refine r_aload (pc := 58) dX9_addThing_58 rfl (by first | rfl | exact isRefV_rf _) ?_
    refine r_iload_n (pc := 60) dX9_addThing_60 rfl ?_
    refine rc_putT4 (pc := 61) dX9_addThing_61 fX9_117 (by assumption) (by omega) (fun h_61 hW_61 hS_61 => ?_)
    refine r_aload (pc := 64) dX9_addThing_64 rfl (by first | rfl | exact isRefV_rf _) ?_
    refine rj_bipush (pc := 66) dX9_addThing_66 (by decide +kernel) ?_
    refine rc_putT5 (pc := 68) dX9_addThing_68 fX9_120 (by assumption) (by omega) (fun h_68 hW_68 hS_68 => ?_)
    refine r_aload_n (pc := 71) dX9_addThing_71 rfl (by first | rfl | exact isRefV_rf _) ?_
    refine r_getf (pc := 72) dX9_addThing_72 fX9_41 (by first | assumption | exact isI.gx (by assumption) | exact isI.gc (by assumption) | exact isW.gx (by assumption) | exact isW.gF (by assumption) | exact isW.gT (by assumption) (by omega) | exact isW.gS (by assumption) (by omega) | exact isW.gK (by assumption) (by omega) | exact isW.g1 (by assumption) | exact isW.g2 (by assumption) | exact isW.g3 (by assumption) | exact isI.gx (isW.i0 (by assumption)) | exact isI.gc (isW.i0 (by assumption)) | exact isI.gx (isW.i1 (by assumption)) | exact isI.gc (isW.i1 (by assumption)) | exact isI.gx (isW.i2 (by assumption)) | exact isI.gc (isW.i2 (by assumption)) | exact isI.gx (isW.i3 (by assumption)) | exact isI.gc (isW.i3 (by assumption)) | exact isI.gx (isW.i4 (by assumption)) | exact isI.gc (isW.i4 (by assumption)) | exact isI.gx (isW.i5 (by assumption)) | exact isI.gc (isW.i5 (by assumption)) | exact isR.gx (by assumption) | exact isRd.gx (by assumption) | exact isSp.gx (by assumption) | exact isI.gx (isR.i (by assumption)) | exact isI.gx (isRd.i (by assumption)) | exact isI.gc (isRd.i (by assumption)) | exact isI.gx (isSp.i (by assumption)) | exact isW.gx (isR.w (by assumption)) | exact isW.gF (isR.w (by assumption)) | fail "no such object") (by rfl) ?_
    refine r_iload_n (pc := 75) dX9_addThing_75 rfl ?_
    have hW_76 : isW h_68 w (adC c N o) C (updL nm N y) (updO g (2 * N) inn) := hW_68
    have e10 : adC c N o (8 + 2) = (Z : Int) := by unfold adC; rw [updI_n (by omega), updI_n (by omega), updI_n (by omega), updI_n (by omega)]; exact hZ
    have i2 := hW_76.i2
    rw [show adC c N o 10 = (Z : Int) from e10] at i2
    refine r_callV1 (pc := 76) dX9_addThing_76 qX1_append kX9_123 vX1_append (by first | assumption | exact isI.gx (by assumption) | exact isI.gc (by assumption) | exact isW.gx (by assumption) | exact isW.gF (by assumption) | exact isW.gT (by assumption) (by omega) | exact isW.gS (by assumption) (by omega) | exact isW.gK (by assumption) (by omega) | exact isW.g1 (by assumption) | exact isW.g2 (by assumption) | exact isW.g3 (by assumption) | exact isI.gx (isW.i0 (by assumption)) | exact isI.gc (isW.i0 (by assumption)) | exact isI.gx (isW.i1 (by assumption)) | exact isI.gc (isW.i1 (by assumption)) | exact isI.gx (isW.i2 (by assumption)) | exact isI.gc (isW.i2 (by assumption)) | exact isI.gx (isW.i3 (by assumption)) | exact isI.gc (isW.i3 (by assumption)) | exact isI.gx (isW.i4 (by assumption)) | exact isI.gc (isW.i4 (by assumption)) | exact isI.gx (isW.i5 (by assumption)) | exact isI.gc (isW.i5 (by assumption)) | exact isR.gx (by assumption) | exact isRd.gx (by assumption) | exact isSp.gx (by assumption) | exact isI.gx (isR.i (by assumption)) | exact isI.gx (isRd.i (by assumption)) | exact isI.gc (isRd.i (by assumption)) | exact isI.gx (isSp.i (by assumption)) | exact isW.gx (isR.w (by assumption)) | exact isW.gF (isR.w (by assumption)) | fail "no such object") rfl rfl (Nat.le_of_ble_eq_true rfl) (ci_append _ i2 (by decide) ⟨by omega, by omega⟩ (N : Int)) (fun v_76 h_76 q_76 => ?_)
    obtain ⟨rfl, I_76, S_76⟩ := q_76
    rw [if_pos (by omega), if_pos (by omega)] at I_76
    have hW_77 := hW_76.ofI (j := 2) (by decide) S_76 I_76
    refine r_pop (pc := 79) dX9_addThing_79 (by first | rfl | (cases ‹Option Nat› <;> rfl)) ?_
    refine r_iload_n (pc := 80) dX9_addThing_80 rfl ?_
    refine r_ireturn (pc := 81) .int dX9_addThing_81 rfl (by first | rfl | assumption) ?_
    exact ⟨rfl, hW_77, ((((((hS_12.trans hS_40).trans hS_49).trans hS_55).trans hS_61).trans hS_68).trans (S_76.mono (fun b hb => iBlk_wBlk (j := 2) hb)))⟩
end mg_91
section mg_92
/-! ===== the class: scopes and tasks that come, things that move, faults that are gathered ===== -/
def asC (c : Nat → Int) (S : Nat) (i k : Int) : Nat → Int := updI (updI (updI (updI c 1 ((S : Int) + 1)) (304 + 3 * S) 0) (305 + 3 * S) i) (306 + 3 * S) k
set_option maxHeartbeats 4000000 in
set_option maxRecDepth 100000 in
theorem cq_addScope {G : mG} {l : Launch} (d : Nat) {h : mH} {w : Nat} {c : Nat → Int} {C : Nat → Nat → Int} {nm : Nat → Int64} {g : Nat → Option Nat} (hW : isW h w c C nm g) (hc : ∀ q, InR (c q)) {S Z : Nat} (hS : c 1 = (S : Int)) (hcap : S < 60) (hZ : c 10 = (Z : Int)) (hcapZ : Z < 150) {i k : Int} (hi : InR i) (hk : InR k) : RUNM G l (d + 1) mX9_addScope [.ref w, .int (J i), .int (J k)] h (fun v h' => v = some (.int (J (S : Int))) ∧ isW h' w (adE (asC c S i k) Z) (updC C 2 (updI (C 2) Z (100 + (S : Int)))) nm g ∧ Same (wBlk w) h h') := by
  refine RUNM.of (by decide +kernel) (Nat.le_of_ble_eq_true rfl) ?_
  refine r_aload_n (pc := 0) dX9_addScope_0 rfl (by first | rfl | exact isRefV_rf _) ?_
  refine r_getf (pc := 1) dX9_addScope_1 fX9_57 (by first | assumption | exact isI.gx (by assumption) | exact isI.gc (by assumption) | exact isW.gx (by assumption) | exact isW.gF (by assumption) | exact isW.gT (by assumption) (by omega) | exact isW.gS (by assumption) (by omega) | exact isW.gK (by assumption) (by omega) | exact isW.g1 (by assumption) | exact isW.g2 (by assumption) | exact isW.g3 (by assumption) | exact isI.gx (isW.i0 (by assumption)) | exact isI.gc (isW.i0 (by assumption)) | exact isI.gx (isW.i1 (by assumption)) | exact isI.gc (isW.i1 (by assumption)) | exact isI.gx (isW.i2 (by assumption)) | exact isI.gc (isW.i2 (by assumption)) | exact isI.gx (isW.i3 (by assumption)) | exact isI.gc (isW.i3 (by assumption)) | exact isI.gx (isW.i4 (by assumption)) | exact isI.gc (isW.i4 (by assumption)) | exact isI.gx (isW.i5 (by assumption)) | exact isI.gc (isW.i5 (by assumption)) | exact isR.gx (by assumption) | exact isRd.gx (by assumption) | exact isSp.gx (by assumption) | exact isI.gx (isR.i (by assumption)) | exact isI.gx (isRd.i (by assumption)) | exact isI.gc (isRd.i (by assumption)) | exact isI.gx (isSp.i (by assumption)) | exact isW.gx (isR.w (by assumption)) | exact isW.gF (isR.w (by assumption)) | fail "no such object") (by rfl) ?_
  rw [hS]
  refine r_istore_n (pc := 4) dX9_addScope_4 (Nat.le_of_ble_eq_true rfl) ?_
  dsimp only [lsSt, List.set, mLs, mEnt]
  refine r_aload_n (pc := 5) dX9_addScope_5 rfl (by first | rfl | exact isRefV_rf _) ?_
  refine r_dup (pc := 6) dX9_addScope_6 (by first | rfl | (cases ‹Option Nat› <;> rfl)) ?_
  refine r_getf (pc := 7) dX9_addScope_7 fX9_57 (by first | assumption | exact isI.gx (by assumption) | exact isI.gc (by assumption) | exact isW.gx (by assumption) | exact isW.gF (by assumption) | exact isW.gT (by assumption) (by omega) | exact isW.gS (by assumption) (by omega) | exact isW.gK (by assumption) (by omega) | exact isW.g1 (by assumption) | exact isW.g2 (by assumption) | exact isW.g3 (by assumption) | exact isI.gx (isW.i0 (by assumption)) | exact isI.gc (isW.i0 (by assumption)) | exact isI.gx (isW.i1 (by assumption)) | exact isI.gc (isW.i1 (by assumption)) | exact isI.gx (isW.i2 (by assumption)) | exact isI.gc (isW.i2 (by assumption)) | exact isI.gx (isW.i3 (by assumption)) | exact isI.gc (isW.i3 (by assumption)) | exact isI.gx (isW.i4 (by assumption)) | exact isI.gc (isW.i4 (by assumption)) | exact isI.gx (isW.i5 (by assumption)) | exact isI.gc (isW.i5 (by assumption)) | exact isR.gx (by assumption) | exact isRd.gx (by assumption) | exact isSp.gx (by assumption) | exact isI.gx (isR.i (by assumption)) | exact isI.gx (isRd.i (by assumption)) | exact isI.gc (isRd.i (by assumption)) | exact isI.gx (isSp.i (by assumption)) | exact isW.gx (isR.w (by assumption)) | exact isW.gF (isR.w (by assumption)) | fail "no such object") (by rfl) ?_
  rw [hS]
  refine rj_iconst (pc := 10) dX9_addScope_10 ?_
  refine rj_iadd (pc := 11) dX9_addScope_11 ?_
  refine rc_putw1 (pc := 12) dX9_addScope_12 fX9_57 (by assumption) (fun h_12 hW_12 hS_12 => ?_)
  have hc2 := updI_r hc (k := 1) (v := (S : Int) + 1) ⟨by omega, by omega⟩
  have e1 : updI c 1 ((S : Int) + 1) 1 = (S : Int) + 1 := updI_s
  refine r_aload_n (pc := 15) dX9_addScope_15 rfl (by first | rfl | exact isRefV_rf _) ?_
  refine r_iload_n (pc := 16) dX9_addScope_16 rfl ?_
  refine r_callV1 (pc := 17) dX9_addScope_17 qX9_scopeAt kX9_61 vX9_scopeAt (by first | assumption | exact isI.gx (by assumption) | exact isI.gc (by assumption) | exact isW.gx (by assumption) | exact isW.gF (by assumption) | exact isW.gT (by assumption) (by omega) | exact isW.gS (by assumption) (by omega) | exact isW.gK (by assumption) (by omega) | exact isW.g1 (by assumption) | exact isW.g2 (by assumption) | exact isW.g3 (by assumption) | exact isI.gx (isW.i0 (by assumption)) | exact isI.gc (isW.i0 (by assumption)) | exact isI.gx (isW.i1 (by assumption)) | exact isI.gc (isW.i1 (by assumption)) | exact isI.gx (isW.i2 (by assumption)) | exact isI.gc (isW.i2 (by assumption)) | exact isI.gx (isW.i3 (by assumption)) | exact isI.gc (isW.i3 (by assumption)) | exact isI.gx (isW.i4 (by assumption)) | exact isI.gc (isW.i4 (by assumption)) | exact isI.gx (isW.i5 (by assumption)) | exact isI.gc (isW.i5 (by assumption)) | exact isR.gx (by assumption) | exact isRd.gx (by assumption) | exact isSp.gx (by assumption) | exact isI.gx (isR.i (by assumption)) | exact isI.gx (isRd.i (by assumption)) | exact isI.gc (isRd.i (by assumption)) | exact isI.gx (isSp.i (by assumption)) | exact isW.gx (isR.w (by assumption)) | exact isW.gF (isR.w (by assumption)) | fail "no such object") rfl rfl (Nat.le_of_ble_eq_true rfl) (cw_scopeAt _ hW_12 hc2 (i := (S : Int)) ⟨by omega, by omega⟩) (fun v_17 h_17 q_17 => ?_)
  obtain ⟨q1_17, rfl⟩ := q_17
  · obtain rfl := scAt_P (by omega) q1_17
    refine r_astore (pc := 20) dX9_addScope_20 (Nat.le_of_ble_eq_true rfl) (by first | rfl | exact isRefV_rf _) ?_
    dsimp only [lsSt, List.set, mLs, mEnt]
    refine r_aload (pc := 22) dX9_addScope_22 rfl (by first | rfl | exact isRefV_rf _) ?_
    refine r_ifnonnull (pc := 24) (tgt := 34) dX9_addScope_24 (by decide) (by first | rfl | exact isRefV_rf _) (fun a_24 c_24 => ?_) (fun c_24 => by cases c_24)
    rw [Int.toNat_natCast]
    refine r_aload (pc := 34) dX9_addScope_34 rfl (by first | rfl | exact isRefV_rf _) ?_
    refine rj_iconst (pc := 36) dX9_addScope_36 ?_
    refine rc_putS0 (pc := 37) dX9_addScope_37 fX9_127 (by assumption) (by omega) (fun h_37 hW_37 hS_37 => ?_)
    refine r_aload (pc := 40) dX9_addScope_40 rfl (by first | rfl | exact isRefV_rf _) ?_
    refine r_iload_n (pc := 42) dX9_addScope_42 rfl ?_
    refine rc_putS1 (pc := 43) dX9_addScope_43 fX9_65 (by assumption) (by omega) (fun h_43 hW_43 hS_43 => ?_)
    refine r_aload (pc := 46) dX9_addScope_46 rfl (by first | rfl | exact isRefV_rf _) ?_
    refine r_iload_n (pc := 48) dX9_addScope_48 rfl ?_
    refine rc_putS2 (pc := 49) dX9_addScope_49 fX9_68 (by assumption) (by omega) (fun h_49 hW_49 hS_49 => ?_)
    refine r_aload_n (pc := 52) dX9_addScope_52 rfl (by first | rfl | exact isRefV_rf _) ?_
    refine r_getf (pc := 53) dX9_addScope_53 fX9_41 (by first | assumption | exact isI.gx (by assumption) | exact isI.gc (by assumption) | exact isW.gx (by assumption) | exact isW.gF (by assumption) | exact isW.gT (by assumption) (by omega) | exact isW.gS (by assumption) (by omega) | exact isW.gK (by assumption) (by omega) | exact isW.g1 (by assumption) | exact isW.g2 (by assumption) | exact isW.g3 (by assumption) | exact isI.gx (isW.i0 (by assumption)) | exact isI.gc (isW.i0 (by assumption)) | exact isI.gx (isW.i1 (by assumption)) | exact isI.gc (isW.i1 (by assumption)) | exact isI.gx (isW.i2 (by assumption)) | exact isI.gc (isW.i2 (by assumption)) | exact isI.gx (isW.i3 (by assumption)) | exact isI.gc (isW.i3 (by assumption)) | exact isI.gx (isW.i4 (by assumption)) | exact isI.gc (isW.i4 (by assumption)) | exact isI.gx (isW.i5 (by assumption)) | exact isI.gc (isW.i5 (by assumption)) | exact isR.gx (by assumption) | exact isRd.gx (by assumption) | exact isSp.gx (by assumption) | exact isI.gx (isR.i (by assumption)) | exact isI.gx (isRd.i (by assumption)) | exact isI.gc (isRd.i (by assumption)) | exact isI.gx (isSp.i (by assumption)) | exact isW.gx (isR.w (by assumption)) | exact isW.gF (isR.w (by assumption)) | fail "no such object") (by rfl) ?_
    refine rj_bipush (pc := 56) dX9_addScope_56 (by decide +kernel) ?_
    refine r_iload_n (pc := 58) dX9_addScope_58 rfl ?_
    refine rj_iadd (pc := 59) dX9_addScope_59 ?_
    have hW_60 : isW h_49 w (asC c S i k) C nm g := hW_49
    have e10 : asC c S i k (8 + 2) = (Z : Int) := by unfold asC; rw [updI_n (by omega), updI_n (by omega), updI_n (by omega), updI_n (by omega)]; exact hZ
    have i2 := hW_60.i2
    rw [show asC c S i k 10 = (Z : Int) from e10] at i2
    refine r_callV1 (pc := 60) dX9_addScope_60 qX1_append kX9_123 vX1_append (by first | assumption | exact isI.gx (by assumption) | exact isI.gc (by assumption) | exact isW.gx (by assumption) | exact isW.gF (by assumption) | exact isW.gT (by assumption) (by omega) | exact isW.gS (by assumption) (by omega) | exact isW.gK (by assumption) (by omega) | exact isW.g1 (by assumption) | exact isW.g2 (by assumption) | exact isW.g3 (by assumption) | exact isI.gx (isW.i0 (by assumption)) | exact isI.gc (isW.i0 (by assumption)) | exact isI.gx (isW.i1 (by assumption)) | exact isI.gc (isW.i1 (by assumption)) | exact isI.gx (isW.i2 (by assumption)) | exact isI.gc (isW.i2 (by assumption)) | exact isI.gx (isW.i3 (by assumption)) | exact isI.gc (isW.i3 (by assumption)) | exact isI.gx (isW.i4 (by assumption)) | exact isI.gc (isW.i4 (by assumption)) | exact isI.gx (isW.i5 (by assumption)) | exact isI.gc (isW.i5 (by assumption)) | exact isR.gx (by assumption) | exact isRd.gx (by assumption) | exact isSp.gx (by assumption) | exact isI.gx (isR.i (by assumption)) | exact isI.gx (isRd.i (by assumption)) | exact isI.gc (isRd.i (by assumption)) | exact isI.gx (isSp.i (by assumption)) | exact isW.gx (isR.w (by assumption)) | exact isW.gF (isR.w (by assumption)) | fail "no such object") rfl rfl (Nat.le_of_ble_eq_true rfl) (ci_append _ i2 (by decide) ⟨by omega, by omega⟩ (100 + (S : Int))) (fun v_60 h_60 q_60 => ?_)
    obtain ⟨rfl, I_60, S_60⟩ := q_60
    rw [if_pos (by omega), if_pos (by omega)] at I_60
    have hW_61 := hW_60.ofI (j := 2) (by decide) S_60 I_60
    refine r_pop (pc := 63) dX9_addScope_63 (by first | rfl | (cases ‹Option Nat› <;> rfl)) ?_
    refine r_iload_n (pc := 64) dX9_addScope_64 rfl ?_
    refine r_ireturn (pc := 65) .int dX9_addScope_65 rfl (by first | rfl | assumption) ?_
    exact ⟨rfl, hW_61, ((((hS_12.trans hS_37).trans hS_43).trans hS_49).trans (S_60.mono (fun b hb => iBlk_wBlk (j := 2) hb)))⟩
def tsC (c : Nat → Int) (q : Nat) (s p : Int) : Nat → Int := updI (updI (updI (updI (updI (updI (updI (updI (updI c (488 + 9 * q) 0) (489 + 9 * q) 0) (490 + 9 * q) p) (491 + 9 * q) 0) (492 + 9 * q) 0) (493 + 9 * q) s) (494 + 9 * q) s) (495 + 9 * q) 0) (496 + 9 * q) 0
def tsG (g : Nat → Option Nat) (q : Nat) (r : Option Nat) : Nat → Option Nat := updO (updO g (180 + 2 * q) r) (181 + 2 * q) r
set_option maxHeartbeats 4000000 in
set_option maxRecDepth 100000 in
theorem cq_start {G : mG} {l : Launch} (d : Nat) {h : mH} {w : Nat} {c : Nat → Int} {C : Nat → Nat → Int} {nm : Nat → Int64} {g : Nat → Option Nat} (hW : isW h w c C nm g) {q : Nat} (hq : q < 10) {r : Option Nat} {i p : Int} : RUNM G l (d) mX7_start [.ref (wK w q), va_rf r, .int (J i), .int (J p)] h (fun v h' => v = none ∧ isW h' w (tsC c q i p) C nm (tsG g q r) ∧ Same (wBlk w) h h') := by
  cases r with
  | none =>
    refine RUNM.of (by decide +kernel) (Nat.le_of_ble_eq_true rfl) ?_
    refine r_aload_n (pc := 0) dX7_start_0 rfl (by first | rfl | exact isRefV_rf _) ?_
    refine r_aload_n (pc := 1) dX7_start_1 rfl (by first | rfl | exact isRefV_rf _) ?_
    refine rc_putK0 (pc := 2) dX7_start_2 fX7_9 (by assumption) (by omega) (fun h_2 hW_2 hS_2 => ?_)
    refine r_aload_n (pc := 5) dX7_start_5 rfl (by first | rfl | exact isRefV_rf _) ?_
    refine r_aload_n (pc := 6) dX7_start_6 rfl (by first | rfl | exact isRefV_rf _) ?_
    refine rc_putK1 (pc := 7) dX7_start_7 fX7_15 (by assumption) (by omega) (fun h_7 hW_7 hS_7 => ?_)
    refine r_aload_n (pc := 10) dX7_start_10 rfl (by first | rfl | exact isRefV_rf _) ?_
    refine rj_iconst (pc := 11) dX7_start_11 ?_
    refine rc_putK2 (pc := 12) dX7_start_12 fX7_18 (by assumption) (by omega) (fun h_12 hW_12 hS_12 => ?_)
    refine r_aload_n (pc := 15) dX7_start_15 rfl (by first | rfl | exact isRefV_rf _) ?_
    refine rj_iconst (pc := 16) dX7_start_16 ?_
    refine rc_putK3 (pc := 17) dX7_start_17 fX7_22 (by assumption) (by omega) (fun h_17 hW_17 hS_17 => ?_)
    refine r_aload_n (pc := 20) dX7_start_20 rfl (by first | rfl | exact isRefV_rf _) ?_
    refine r_iload_n (pc := 21) dX7_start_21 rfl ?_
    refine rc_putK4 (pc := 22) dX7_start_22 fX7_25 (by assumption) (by omega) (fun h_22 hW_22 hS_22 => ?_)
    refine r_aload_n (pc := 25) dX7_start_25 rfl (by first | rfl | exact isRefV_rf _) ?_
    refine rj_iconst (pc := 26) dX7_start_26 ?_
    refine rc_putK5 (pc := 27) dX7_start_27 fX7_28 (by assumption) (by omega) (fun h_27 hW_27 hS_27 => ?_)
    refine r_aload_n (pc := 30) dX7_start_30 rfl (by first | rfl | exact isRefV_rf _) ?_
    refine rj_iconst (pc := 31) dX7_start_31 ?_
    refine rc_putK6 (pc := 32) dX7_start_32 fX7_31 (by assumption) (by omega) (fun h_32 hW_32 hS_32 => ?_)
    refine r_aload_n (pc := 35) dX7_start_35 rfl (by first | rfl | exact isRefV_rf _) ?_
    refine r_iload_n (pc := 36) dX7_start_36 rfl ?_
    refine rc_putK7 (pc := 37) dX7_start_37 fX7_34 (by assumption) (by omega) (fun h_37 hW_37 hS_37 => ?_)
    refine r_aload_n (pc := 40) dX7_start_40 rfl (by first | rfl | exact isRefV_rf _) ?_
    refine r_iload_n (pc := 41) dX7_start_41 rfl ?_
    refine rc_putK8 (pc := 42) dX7_start_42 fX7_37 (by assumption) (by omega) (fun h_42 hW_42 hS_42 => ?_)
    refine r_aload_n (pc := 45) dX7_start_45 rfl (by first | rfl | exact isRefV_rf _) ?_
    refine rj_iconst (pc := 46) dX7_start_46 ?_
    refine rc_putK9 (pc := 47) dX7_start_47 fX7_40 (by assumption) (by omega) (fun h_47 hW_47 hS_47 => ?_)
    refine r_aload_n (pc := 50) dX7_start_50 rfl (by first | rfl | exact isRefV_rf _) ?_
    refine rj_iconst (pc := 51) dX7_start_51 ?_
    refine rc_putK10 (pc := 52) dX7_start_52 fX7_43 (by assumption) (by omega) (by first | exact nar_J0 | exact nar_J1 | exact nar_b01 | assumption) (by first | exact fit_J0 | exact fit_J1 | assumption) (fun h_52 hW_52 hS_52 => ?_)
    refine r_return (pc := 55) dX7_start_55 rfl ?_
    exact ⟨rfl, hW_52, (((((((((hS_2.trans hS_7).trans hS_12).trans hS_17).trans hS_22).trans hS_27).trans hS_32).trans hS_37).trans hS_42).trans hS_47).trans hS_52⟩
  | some r =>
    refine RUNM.of (by decide +kernel) (Nat.le_of_ble_eq_true rfl) ?_
    refine r_aload_n (pc := 0) dX7_start_0 rfl (by first | rfl | exact isRefV_rf _) ?_
    refine r_aload_n (pc := 1) dX7_start_1 rfl (by first | rfl | exact isRefV_rf _) ?_
    refine rc_putK0 (pc := 2) dX7_start_2 fX7_9 (by assumption) (by omega) (fun h_2 hW_2 hS_2 => ?_)
    refine r_aload_n (pc := 5) dX7_start_5 rfl (by first | rfl | exact isRefV_rf _) ?_
    refine r_aload_n (pc := 6) dX7_start_6 rfl (by first | rfl | exact isRefV_rf _) ?_
    refine rc_putK1 (pc := 7) dX7_start_7 fX7_15 (by assumption) (by omega) (fun h_7 hW_7 hS_7 => ?_)
    refine r_aload_n (pc := 10) dX7_start_10 rfl (by first | rfl | exact isRefV_rf _) ?_
    refine rj_iconst (pc := 11) dX7_start_11 ?_
    refine rc_putK2 (pc := 12) dX7_start_12 fX7_18 (by assumption) (by omega) (fun h_12 hW_12 hS_12 => ?_)
    refine r_aload_n (pc := 15) dX7_start_15 rfl (by first | rfl | exact isRefV_rf _) ?_
    refine rj_iconst (pc := 16) dX7_start_16 ?_
    refine rc_putK3 (pc := 17) dX7_start_17 fX7_22 (by assumption) (by omega) (fun h_17 hW_17 hS_17 => ?_)
    refine r_aload_n (pc := 20) dX7_start_20 rfl (by first | rfl | exact isRefV_rf _) ?_
    refine r_iload_n (pc := 21) dX7_start_21 rfl ?_
    refine rc_putK4 (pc := 22) dX7_start_22 fX7_25 (by assumption) (by omega) (fun h_22 hW_22 hS_22 => ?_)
    refine r_aload_n (pc := 25) dX7_start_25 rfl (by first | rfl | exact isRefV_rf _) ?_
    refine rj_iconst (pc := 26) dX7_start_26 ?_
    refine rc_putK5 (pc := 27) dX7_start_27 fX7_28 (by assumption) (by omega) (fun h_27 hW_27 hS_27 => ?_)
    refine r_aload_n (pc := 30) dX7_start_30 rfl (by first | rfl | exact isRefV_rf _) ?_
    refine rj_iconst (pc := 31) dX7_start_31 ?_
    refine rc_putK6 (pc := 32) dX7_start_32 fX7_31 (by assumption) (by omega) (fun h_32 hW_32 hS_32 => ?_)
    refine r_aload_n (pc := 35) dX7_start_35 rfl (by first | rfl | exact isRefV_rf _) ?_
    refine r_iload_n (pc := 36) dX7_start_36 rfl ?_
    refine rc_putK7 (pc := 37) dX7_start_37 fX7_34 (by assumption) (by omega) (fun h_37 hW_37 hS_37 => ?_)
    refine r_aload_n (pc := 40) dX7_start_40 rfl (by first | rfl | exact isRefV_rf _) ?_
    refine r_iload_n (pc := 41) dX7_start_41 rfl ?_
    refine rc_putK8 (pc := 42) dX7_start_42 fX7_37 (by assumption) (by omega) (fun h_42 hW_42 hS_42 => ?_)
    refine r_aload_n (pc := 45) dX7_start_45 rfl (by first | rfl | exact isRefV_rf _) ?_
    refine rj_iconst (pc := 46) dX7_start_46 ?_
    refine rc_putK9 (pc := 47) dX7_start_47 fX7_40 (by assumption) (by omega) (fun h_47 hW_47 hS_47 => ?_)
    refine r_aload_n (pc := 50) dX7_start_50 rfl (by first | rfl | exact isRefV_rf _) ?_
    refine rj_iconst (pc := 51) dX7_start_51 ?_
    refine rc_putK10 (pc := 52) dX7_start_52 fX7_43 (by assumption) (by omega) (by first | exact nar_J0 | exact nar_J1 | exact nar_b01 | assumption) (by first | exact fit_J0 | exact fit_J1 | assumption) (fun h_52 hW_52 hS_52 => ?_)
    refine r_return (pc := 55) dX7_start_55 rfl ?_
    exact ⟨rfl, hW_52, (((((((((hS_2.trans hS_7).trans hS_12).trans hS_17).trans hS_22).trans hS_27).trans hS_32).trans hS_37).trans hS_42).trans hS_47).trans hS_52⟩
def gaC (c : Nat → Int) (F : Nat) : Nat → Int := updI (updI (updI c 11 ((F : Int) + 1)) 12 ((F : Int) + 1)) 13 ((F : Int) + 1)
def gaD (C : Nat → Nat → Int) (F : Nat) (a t b : Int) : Nat → Nat → Int := updC (updC (updC C 3 (updI (C 3) F a)) 4 (updI (C 4) F t)) 5 (updI (C 5) F b)
set_option maxHeartbeats 4000000 in
set_option maxRecDepth 100000 in
theorem cq_gather {G : mG} {l : Launch} (d : Nat) {h : mH} {w : Nat} {c : Nat → Int} {C : Nat → Nat → Int} {nm : Nat → Int64} {g : Nat → Option Nat} (hW : isW h w c C nm g) (hc : ∀ q, InR (c q)) {F : Nat} (h11 : c 11 = (F : Int)) (h12 : c 12 = (F : Int)) (h13 : c 13 = (F : Int)) (hcapF : F < 90) {a t b : Int}  : RUNM G l (d + 1) mX0_gather [.ref (wA w 10), .int (J a), .int (J t), .int (J b)] h (fun v h' => v = none ∧ isW h' w (gaC c F) (gaD C F a t b) nm g ∧ Same (wBlk w) h h') := by
  refine RUNM.of (by decide +kernel) (Nat.le_of_ble_eq_true rfl) ?_
  refine r_aload_n (pc := 0) dX0_gather_0 rfl (by first | rfl | exact isRefV_rf _) ?_
  refine r_getf (pc := 1) dX0_gather_1 fX0_14 (by first | assumption | exact isI.gx (by assumption) | exact isI.gc (by assumption) | exact isW.gx (by assumption) | exact isW.gF (by assumption) | exact isW.gT (by assumption) (by omega) | exact isW.gS (by assumption) (by omega) | exact isW.gK (by assumption) (by omega) | exact isW.g1 (by assumption) | exact isW.g2 (by assumption) | exact isW.g3 (by assumption) | exact isI.gx (isW.i0 (by assumption)) | exact isI.gc (isW.i0 (by assumption)) | exact isI.gx (isW.i1 (by assumption)) | exact isI.gc (isW.i1 (by assumption)) | exact isI.gx (isW.i2 (by assumption)) | exact isI.gc (isW.i2 (by assumption)) | exact isI.gx (isW.i3 (by assumption)) | exact isI.gc (isW.i3 (by assumption)) | exact isI.gx (isW.i4 (by assumption)) | exact isI.gc (isW.i4 (by assumption)) | exact isI.gx (isW.i5 (by assumption)) | exact isI.gc (isW.i5 (by assumption)) | exact isR.gx (by assumption) | exact isRd.gx (by assumption) | exact isSp.gx (by assumption) | exact isI.gx (isR.i (by assumption)) | exact isI.gx (isRd.i (by assumption)) | exact isI.gc (isRd.i (by assumption)) | exact isI.gx (isSp.i (by assumption)) | exact isW.gx (isR.w (by assumption)) | exact isW.gF (isR.w (by assumption)) | fail "no such object") (by rfl) ?_
  refine r_iload_n (pc := 4) dX0_gather_4 rfl ?_
  have i3 := hW.i3
  have z3 : c 11 = (F : Int) := by (try rw [updI_n (by omega)]); (try rw [updI_n (by omega)]); assumption
  rw [z3] at i3
  refine r_callV1 (pc := 5) dX0_gather_5 qX1_append kX0_26 vX1_append (by first | assumption | exact isI.gx (by assumption) | exact isI.gc (by assumption) | exact isW.gx (by assumption) | exact isW.gF (by assumption) | exact isW.gT (by assumption) (by omega) | exact isW.gS (by assumption) (by omega) | exact isW.gK (by assumption) (by omega) | exact isW.g1 (by assumption) | exact isW.g2 (by assumption) | exact isW.g3 (by assumption) | exact isI.gx (isW.i0 (by assumption)) | exact isI.gc (isW.i0 (by assumption)) | exact isI.gx (isW.i1 (by assumption)) | exact isI.gc (isW.i1 (by assumption)) | exact isI.gx (isW.i2 (by assumption)) | exact isI.gc (isW.i2 (by assumption)) | exact isI.gx (isW.i3 (by assumption)) | exact isI.gc (isW.i3 (by assumption)) | exact isI.gx (isW.i4 (by assumption)) | exact isI.gc (isW.i4 (by assumption)) | exact isI.gx (isW.i5 (by assumption)) | exact isI.gc (isW.i5 (by assumption)) | exact isR.gx (by assumption) | exact isRd.gx (by assumption) | exact isSp.gx (by assumption) | exact isI.gx (isR.i (by assumption)) | exact isI.gx (isRd.i (by assumption)) | exact isI.gc (isRd.i (by assumption)) | exact isI.gx (isSp.i (by assumption)) | exact isW.gx (isR.w (by assumption)) | exact isW.gF (isR.w (by assumption)) | fail "no such object") rfl rfl (Nat.le_of_ble_eq_true rfl) (ci_append _ i3 (by decide) ⟨by omega, by omega⟩ a) (fun v_5 h_5 q_5 => ?_)
  obtain ⟨rfl, I_5, S_5⟩ := q_5
  rw [if_pos (by omega), if_pos (by omega)] at I_5
  have W_5 := hW.ofI (j := 3) (by decide) S_5 I_5
  have T_5 := S_5.mono (P' := wBlk w) (fun b hb => iBlk_wBlk (j := 3) hb)
  refine r_pop (pc := 8) dX0_gather_8 (by first | rfl | (cases ‹Option Nat› <;> rfl)) ?_
  refine r_aload_n (pc := 9) dX0_gather_9 rfl (by first | rfl | exact isRefV_rf _) ?_
  refine r_getf (pc := 10) dX0_gather_10 fX0_20 (by first | assumption | exact isI.gx (by assumption) | exact isI.gc (by assumption) | exact isW.gx (by assumption) | exact isW.gF (by assumption) | exact isW.gT (by assumption) (by omega) | exact isW.gS (by assumption) (by omega) | exact isW.gK (by assumption) (by omega) | exact isW.g1 (by assumption) | exact isW.g2 (by assumption) | exact isW.g3 (by assumption) | exact isI.gx (isW.i0 (by assumption)) | exact isI.gc (isW.i0 (by assumption)) | exact isI.gx (isW.i1 (by assumption)) | exact isI.gc (isW.i1 (by assumption)) | exact isI.gx (isW.i2 (by assumption)) | exact isI.gc (isW.i2 (by assumption)) | exact isI.gx (isW.i3 (by assumption)) | exact isI.gc (isW.i3 (by assumption)) | exact isI.gx (isW.i4 (by assumption)) | exact isI.gc (isW.i4 (by assumption)) | exact isI.gx (isW.i5 (by assumption)) | exact isI.gc (isW.i5 (by assumption)) | exact isR.gx (by assumption) | exact isRd.gx (by assumption) | exact isSp.gx (by assumption) | exact isI.gx (isR.i (by assumption)) | exact isI.gx (isRd.i (by assumption)) | exact isI.gc (isRd.i (by assumption)) | exact isI.gx (isSp.i (by assumption)) | exact isW.gx (isR.w (by assumption)) | exact isW.gF (isR.w (by assumption)) | fail "no such object") (by rfl) ?_
  refine r_iload_n (pc := 13) dX0_gather_13 rfl ?_
  have i4 := W_5.i4
  have z4 : updI c (8 + 3) ((F : Int) + 1) 12 = (F : Int) := by (try rw [updI_n (by omega)]); (try rw [updI_n (by omega)]); assumption
  rw [z4] at i4
  refine r_callV1 (pc := 14) dX0_gather_14 qX1_append kX0_26 vX1_append (by first | assumption | exact isI.gx (by assumption) | exact isI.gc (by assumption) | exact isW.gx (by assumption) | exact isW.gF (by assumption) | exact isW.gT (by assumption) (by omega) | exact isW.gS (by assumption) (by omega) | exact isW.gK (by assumption) (by omega) | exact isW.g1 (by assumption) | exact isW.g2 (by assumption) | exact isW.g3 (by assumption) | exact isI.gx (isW.i0 (by assumption)) | exact isI.gc (isW.i0 (by assumption)) | exact isI.gx (isW.i1 (by assumption)) | exact isI.gc (isW.i1 (by assumption)) | exact isI.gx (isW.i2 (by assumption)) | exact isI.gc (isW.i2 (by assumption)) | exact isI.gx (isW.i3 (by assumption)) | exact isI.gc (isW.i3 (by assumption)) | exact isI.gx (isW.i4 (by assumption)) | exact isI.gc (isW.i4 (by assumption)) | exact isI.gx (isW.i5 (by assumption)) | exact isI.gc (isW.i5 (by assumption)) | exact isR.gx (by assumption) | exact isRd.gx (by assumption) | exact isSp.gx (by assumption) | exact isI.gx (isR.i (by assumption)) | exact isI.gx (isRd.i (by assumption)) | exact isI.gc (isRd.i (by assumption)) | exact isI.gx (isSp.i (by assumption)) | exact isW.gx (isR.w (by assumption)) | exact isW.gF (isR.w (by assumption)) | fail "no such object") rfl rfl (Nat.le_of_ble_eq_true rfl) (ci_append _ i4 (by decide) ⟨by omega, by omega⟩ t) (fun v_14 h_14 q_14 => ?_)
  obtain ⟨rfl, I_14, S_14⟩ := q_14
  rw [if_pos (by omega), if_pos (by omega)] at I_14
  have W_14 := W_5.ofI (j := 4) (by decide) S_14 I_14
  have T_14 := S_14.mono (P' := wBlk w) (fun b hb => iBlk_wBlk (j := 4) hb)
  refine r_pop (pc := 17) dX0_gather_17 (by first | rfl | (cases ‹Option Nat› <;> rfl)) ?_
  refine r_aload_n (pc := 18) dX0_gather_18 rfl (by first | rfl | exact isRefV_rf _) ?_
  refine r_getf (pc := 19) dX0_gather_19 fX0_23 (by first | assumption | exact isI.gx (by assumption) | exact isI.gc (by assumption) | exact isW.gx (by assumption) | exact isW.gF (by assumption) | exact isW.gT (by assumption) (by omega) | exact isW.gS (by assumption) (by omega) | exact isW.gK (by assumption) (by omega) | exact isW.g1 (by assumption) | exact isW.g2 (by assumption) | exact isW.g3 (by assumption) | exact isI.gx (isW.i0 (by assumption)) | exact isI.gc (isW.i0 (by assumption)) | exact isI.gx (isW.i1 (by assumption)) | exact isI.gc (isW.i1 (by assumption)) | exact isI.gx (isW.i2 (by assumption)) | exact isI.gc (isW.i2 (by assumption)) | exact isI.gx (isW.i3 (by assumption)) | exact isI.gc (isW.i3 (by assumption)) | exact isI.gx (isW.i4 (by assumption)) | exact isI.gc (isW.i4 (by assumption)) | exact isI.gx (isW.i5 (by assumption)) | exact isI.gc (isW.i5 (by assumption)) | exact isR.gx (by assumption) | exact isRd.gx (by assumption) | exact isSp.gx (by assumption) | exact isI.gx (isR.i (by assumption)) | exact isI.gx (isRd.i (by assumption)) | exact isI.gc (isRd.i (by assumption)) | exact isI.gx (isSp.i (by assumption)) | exact isW.gx (isR.w (by assumption)) | exact isW.gF (isR.w (by assumption)) | fail "no such object") (by rfl) ?_
  refine r_iload_n (pc := 22) dX0_gather_22 rfl ?_
  have i5 := W_14.i5
  have z5 : updI (updI c (8 + 3) ((F : Int) + 1)) (8 + 4) ((F : Int) + 1) 13 = (F : Int) := by (try rw [updI_n (by omega)]); (try rw [updI_n (by omega)]); assumption
  rw [z5] at i5
  refine r_callV1 (pc := 23) dX0_gather_23 qX1_append kX0_26 vX1_append (by first | assumption | exact isI.gx (by assumption) | exact isI.gc (by assumption) | exact isW.gx (by assumption) | exact isW.gF (by assumption) | exact isW.gT (by assumption) (by omega) | exact isW.gS (by assumption) (by omega) | exact isW.gK (by assumption) (by omega) | exact isW.g1 (by assumption) | exact isW.g2 (by assumption) | exact isW.g3 (by assumption) | exact isI.gx (isW.i0 (by assumption)) | exact isI.gc (isW.i0 (by assumption)) | exact isI.gx (isW.i1 (by assumption)) | exact isI.gc (isW.i1 (by assumption)) | exact isI.gx (isW.i2 (by assumption)) | exact isI.gc (isW.i2 (by assumption)) | exact isI.gx (isW.i3 (by assumption)) | exact isI.gc (isW.i3 (by assumption)) | exact isI.gx (isW.i4 (by assumption)) | exact isI.gc (isW.i4 (by assumption)) | exact isI.gx (isW.i5 (by assumption)) | exact isI.gc (isW.i5 (by assumption)) | exact isR.gx (by assumption) | exact isRd.gx (by assumption) | exact isSp.gx (by assumption) | exact isI.gx (isR.i (by assumption)) | exact isI.gx (isRd.i (by assumption)) | exact isI.gc (isRd.i (by assumption)) | exact isI.gx (isSp.i (by assumption)) | exact isW.gx (isR.w (by assumption)) | exact isW.gF (isR.w (by assumption)) | fail "no such object") rfl rfl (Nat.le_of_ble_eq_true rfl) (ci_append _ i5 (by decide) ⟨by omega, by omega⟩ b) (fun v_23 h_23 q_23 => ?_)
  obtain ⟨rfl, I_23, S_23⟩ := q_23
  rw [if_pos (by omega), if_pos (by omega)] at I_23
  have W_23 := W_14.ofI (j := 5) (by decide) S_23 I_23
  have T_23 := S_23.mono (P' := wBlk w) (fun b hb => iBlk_wBlk (j := 5) hb)
  refine r_pop (pc := 26) dX0_gather_26 (by first | rfl | (cases ‹Option Nat› <;> rfl)) ?_
  refine r_return (pc := 27) dX0_gather_27 rfl ?_
  exact ⟨rfl, W_23, (T_5.trans T_14).trans T_23⟩
end mg_92
section mg_93
/-! ===== the class: tasks that come, things that move, worlds that become others ===== -/
def atC (c : Nat → Int) (K S Z : Nat) (i p : Int) : Nat → Int := tsC (adE (asC (updI c 2 ((K : Int) + 1)) S i (K : Int)) Z) K (S : Int) p
set_option maxHeartbeats 4000000 in
set_option maxRecDepth 100000 in
theorem cq_addTask {G : mG} {l : Launch} (d : Nat) {h : mH} {w : Nat} {c : Nat → Int} {C : Nat → Nat → Int} {nm : Nat → Int64} {g : Nat → Option Nat} (hW : isW h w c C nm g) (hc : ∀ q, InR (c q)) {K S Z : Nat} (hK : c 2 = (K : Int)) (hcapK : K < 10) (hS : c 1 = (S : Int)) (hcap : S < 60) (hZ : c 10 = (Z : Int)) (hcapZ : Z < 150) {s : Nat} {i p : Int} (hi : InR i) : RUNM G l (d + 2) mX9_addTask [.ref w, .ref s, .int (J i), .int (J p)] h (fun v h' => v = some (.int (J (K : Int))) ∧ isW h' w (atC c K S Z i p) (updC C 2 (updI (C 2) Z (100 + (S : Int)))) nm (tsG g K (some s)) ∧ Same (wBlk w) h h') := by
  refine RUNM.of (by decide +kernel) (Nat.le_of_ble_eq_true rfl) ?_
  refine r_aload_n (pc := 0) dX9_addTask_0 rfl (by first | rfl | exact isRefV_rf _) ?_
  refine r_getf (pc := 1) dX9_addTask_1 fX9_81 (by first | assumption | exact isI.gx (by assumption) | exact isI.gc (by assumption) | exact isW.gx (by assumption) | exact isW.gF (by assumption) | exact isW.gT (by assumption) (by omega) | exact isW.gS (by assumption) (by omega) | exact isW.gK (by assumption) (by omega) | exact isW.g1 (by assumption) | exact isW.g2 (by assumption) | exact isW.g3 (by assumption) | exact isI.gx (isW.i0 (by assumption)) | exact isI.gc (isW.i0 (by assumption)) | exact isI.gx (isW.i1 (by assumption)) | exact isI.gc (isW.i1 (by assumption)) | exact isI.gx (isW.i2 (by assumption)) | exact isI.gc (isW.i2 (by assumption)) | exact isI.gx (isW.i3 (by assumption)) | exact isI.gc (isW.i3 (by assumption)) | exact isI.gx (isW.i4 (by assumption)) | exact isI.gc (isW.i4 (by assumption)) | exact isI.gx (isW.i5 (by assumption)) | exact isI.gc (isW.i5 (by assumption)) | exact isR.gx (by assumption) | exact isRd.gx (by assumption) | exact isSp.gx (by assumption) | exact isI.gx (isR.i (by assumption)) | exact isI.gx (isRd.i (by assumption)) | exact isI.gc (isRd.i (by assumption)) | exact isI.gx (isSp.i (by assumption)) | exact isW.gx (isR.w (by assumption)) | exact isW.gF (isR.w (by assumption)) | fail "no such object") (by rfl) ?_
  rw [hK]
  refine r_istore (pc := 4) dX9_addTask_4 (Nat.le_of_ble_eq_true rfl) ?_
  dsimp only [lsSt, List.set, mLs, mEnt]
  refine r_aload_n (pc := 6) dX9_addTask_6 rfl (by first | rfl | exact isRefV_rf _) ?_
  refine r_dup (pc := 7) dX9_addTask_7 (by first | rfl | (cases ‹Option Nat› <;> rfl)) ?_
  refine r_getf (pc := 8) dX9_addTask_8 fX9_81 (by first | assumption | exact isI.gx (by assumption) | exact isI.gc (by assumption) | exact isW.gx (by assumption) | exact isW.gF (by assumption) | exact isW.gT (by assumption) (by omega) | exact isW.gS (by assumption) (by omega) | exact isW.gK (by assumption) (by omega) | exact isW.g1 (by assumption) | exact isW.g2 (by assumption) | exact isW.g3 (by assumption) | exact isI.gx (isW.i0 (by assumption)) | exact isI.gc (isW.i0 (by assumption)) | exact isI.gx (isW.i1 (by assumption)) | exact isI.gc (isW.i1 (by assumption)) | exact isI.gx (isW.i2 (by assumption)) | exact isI.gc (isW.i2 (by assumption)) | exact isI.gx (isW.i3 (by assumption)) | exact isI.gc (isW.i3 (by assumption)) | exact isI.gx (isW.i4 (by assumption)) | exact isI.gc (isW.i4 (by assumption)) | exact isI.gx (isW.i5 (by assumption)) | exact isI.gc (isW.i5 (by assumption)) | exact isR.gx (by assumption) | exact isRd.gx (by assumption) | exact isSp.gx (by assumption) | exact isI.gx (isR.i (by assumption)) | exact isI.gx (isRd.i (by assumption)) | exact isI.gc (isRd.i (by assumption)) | exact isI.gx (isSp.i (by assumption)) | exact isW.gx (isR.w (by assumption)) | exact isW.gF (isR.w (by assumption)) | fail "no such object") (by rfl) ?_
  rw [hK]
  refine rj_iconst (pc := 11) dX9_addTask_11 ?_
  refine rj_iadd (pc := 12) dX9_addTask_12 ?_
  refine rc_putw2 (pc := 13) dX9_addTask_13 fX9_81 (by assumption) (fun h_13 hW_13 hS_13 => ?_)
  have hc2 := updI_r hc (k := 2) (v := (K : Int) + 1) ⟨by omega, by omega⟩
  have e1 : updI c 2 ((K : Int) + 1) 2 = (K : Int) + 1 := updI_s
  refine r_aload_n (pc := 16) dX9_addTask_16 rfl (by first | rfl | exact isRefV_rf _) ?_
  refine r_iload (pc := 17) dX9_addTask_17 rfl ?_
  refine r_callV1 (pc := 19) dX9_addTask_19 qX9_taskAt kX9_128 vX9_taskAt (by first | assumption | exact isI.gx (by assumption) | exact isI.gc (by assumption) | exact isW.gx (by assumption) | exact isW.gF (by assumption) | exact isW.gT (by assumption) (by omega) | exact isW.gS (by assumption) (by omega) | exact isW.gK (by assumption) (by omega) | exact isW.g1 (by assumption) | exact isW.g2 (by assumption) | exact isW.g3 (by assumption) | exact isI.gx (isW.i0 (by assumption)) | exact isI.gc (isW.i0 (by assumption)) | exact isI.gx (isW.i1 (by assumption)) | exact isI.gc (isW.i1 (by assumption)) | exact isI.gx (isW.i2 (by assumption)) | exact isI.gc (isW.i2 (by assumption)) | exact isI.gx (isW.i3 (by assumption)) | exact isI.gc (isW.i3 (by assumption)) | exact isI.gx (isW.i4 (by assumption)) | exact isI.gc (isW.i4 (by assumption)) | exact isI.gx (isW.i5 (by assumption)) | exact isI.gc (isW.i5 (by assumption)) | exact isR.gx (by assumption) | exact isRd.gx (by assumption) | exact isSp.gx (by assumption) | exact isI.gx (isR.i (by assumption)) | exact isI.gx (isRd.i (by assumption)) | exact isI.gc (isRd.i (by assumption)) | exact isI.gx (isSp.i (by assumption)) | exact isW.gx (isR.w (by assumption)) | exact isW.gF (isR.w (by assumption)) | fail "no such object") rfl rfl (Nat.le_of_ble_eq_true rfl) (cw_taskAt _ hW_13 hc2 (i := (K : Int)) ⟨by omega, by omega⟩) (fun v_19 h_19 q_19 => ?_)
  obtain ⟨q1_19, rfl⟩ := q_19
  · obtain rfl := tkAt_P (by omega) q1_19
    refine r_astore (pc := 22) dX9_addTask_22 (Nat.le_of_ble_eq_true rfl) (by first | rfl | exact isRefV_rf _) ?_
    dsimp only [lsSt, List.set, mLs, mEnt]
    refine r_aload (pc := 24) dX9_addTask_24 rfl (by first | rfl | exact isRefV_rf _) ?_
    refine r_ifnonnull (pc := 26) (tgt := 37) dX9_addTask_26 (by decide) (by first | rfl | exact isRefV_rf _) (fun a_26 c_26 => ?_) (fun c_26 => by cases c_26)
    rw [Int.toNat_natCast]
    refine r_aload (pc := 37) dX9_addTask_37 rfl (by first | rfl | exact isRefV_rf _) ?_
    refine r_aload_n (pc := 39) dX9_addTask_39 rfl (by first | rfl | exact isRefV_rf _) ?_
    refine r_aload_n (pc := 40) dX9_addTask_40 rfl (by first | rfl | exact isRefV_rf _) ?_
    refine r_iload_n (pc := 41) dX9_addTask_41 rfl ?_
    refine r_iload (pc := 42) dX9_addTask_42 rfl ?_
    refine r_callV2 (pc := 44) dX9_addTask_44 qX9_addScope kX9_132 vX9_addScope (by first | assumption | exact isI.gx (by assumption) | exact isI.gc (by assumption) | exact isW.gx (by assumption) | exact isW.gF (by assumption) | exact isW.gT (by assumption) (by omega) | exact isW.gS (by assumption) (by omega) | exact isW.gK (by assumption) (by omega) | exact isW.g1 (by assumption) | exact isW.g2 (by assumption) | exact isW.g3 (by assumption) | exact isI.gx (isW.i0 (by assumption)) | exact isI.gc (isW.i0 (by assumption)) | exact isI.gx (isW.i1 (by assumption)) | exact isI.gc (isW.i1 (by assumption)) | exact isI.gx (isW.i2 (by assumption)) | exact isI.gc (isW.i2 (by assumption)) | exact isI.gx (isW.i3 (by assumption)) | exact isI.gc (isW.i3 (by assumption)) | exact isI.gx (isW.i4 (by assumption)) | exact isI.gc (isW.i4 (by assumption)) | exact isI.gx (isW.i5 (by assumption)) | exact isI.gc (isW.i5 (by assumption)) | exact isR.gx (by assumption) | exact isRd.gx (by assumption) | exact isSp.gx (by assumption) | exact isI.gx (isR.i (by assumption)) | exact isI.gx (isRd.i (by assumption)) | exact isI.gc (isRd.i (by assumption)) | exact isI.gx (isSp.i (by assumption)) | exact isW.gx (isR.w (by assumption)) | exact isW.gF (isR.w (by assumption)) | fail "no such object") rfl rfl (Nat.le_of_ble_eq_true rfl) (cq_addScope _ hW_13 hc2 (S := S) (Z := Z) ((updI_n (by omega)).trans hS) hcap ((updI_n (by omega)).trans hZ) hcapZ hi (k := (K : Int)) ⟨by omega, by omega⟩) (fun v_44 h_44 q_44 => ?_)
    obtain ⟨rfl, hW_44, S_44⟩ := q_44
    refine r_iload_n (pc := 47) dX9_addTask_47 rfl ?_
    refine r_callV3 (pc := 48) dX9_addTask_48 qX7_start kX9_136 vX7_start (by first | assumption | exact isI.gx (by assumption) | exact isI.gc (by assumption) | exact isW.gx (by assumption) | exact isW.gF (by assumption) | exact isW.gT (by assumption) (by omega) | exact isW.gS (by assumption) (by omega) | exact isW.gK (by assumption) (by omega) | exact isW.g1 (by assumption) | exact isW.g2 (by assumption) | exact isW.g3 (by assumption) | exact isI.gx (isW.i0 (by assumption)) | exact isI.gc (isW.i0 (by assumption)) | exact isI.gx (isW.i1 (by assumption)) | exact isI.gc (isW.i1 (by assumption)) | exact isI.gx (isW.i2 (by assumption)) | exact isI.gc (isW.i2 (by assumption)) | exact isI.gx (isW.i3 (by assumption)) | exact isI.gc (isW.i3 (by assumption)) | exact isI.gx (isW.i4 (by assumption)) | exact isI.gc (isW.i4 (by assumption)) | exact isI.gx (isW.i5 (by assumption)) | exact isI.gc (isW.i5 (by assumption)) | exact isR.gx (by assumption) | exact isRd.gx (by assumption) | exact isSp.gx (by assumption) | exact isI.gx (isR.i (by assumption)) | exact isI.gx (isRd.i (by assumption)) | exact isI.gc (isRd.i (by assumption)) | exact isI.gx (isSp.i (by assumption)) | exact isW.gx (isR.w (by assumption)) | exact isW.gF (isR.w (by assumption)) | fail "no such object") rfl rfl (Nat.le_of_ble_eq_true rfl) (cq_start _ hW_44 (q := K) hcapK (r := some s) (i := (S : Int)) (p := p)) (fun v_48 h_48 q_48 => ?_)
    obtain ⟨rfl, hW_48, S_48⟩ := q_48
    refine r_iload (pc := 51) dX9_addTask_51 rfl ?_
    refine r_ireturn (pc := 53) .int dX9_addTask_53 rfl (by first | rfl | assumption) ?_
    exact ⟨rfl, hW_48, (hS_13.trans S_44).trans S_48⟩
def mvC (c : Nat → Int) (q : Nat) (i k : Int) : Nat → Int := updI (updI (updI c (33 + 3 * q) i) 10 k) 10 (k + 1)
def mvD (C : Nat → Nat → Int) (Z q : Nat) : Nat → Nat → Int := updC (updC C 2 (drA (q : Int) (C 2) Z)) 2 (updI (drA (q : Int) (C 2) Z) (cnt (notB (q : Int) (C 2)) Z).toNat (q : Int))
set_option maxHeartbeats 4000000 in
set_option maxRecDepth 100000 in
theorem cq_moveThing {G : mG} {l : Launch} (d : Nat) {h : mH} {w : Nat} {c : Nat → Int} {C : Nat → Nat → Int} {nm : Nat → Int64} {g : Nat → Option Nat} (hW : isW h w c C nm g) (hc : ∀ q, InR (c q)) {Z q : Nat} (hq : (q : Int) < c 0) (hq2 : q < 90) (hZ : c 10 = (Z : Int)) (hcapZ : Z < 150) (hC : ∀ q, InR (C 2 q)) {i : Int} : RUNM G l (d + 1) mX9_moveThing [.ref w, .int (J (q : Int)), .int (J i)] h (fun v h' => v = none ∧ isW h' w (mvC c q i (cnt (notB (q : Int) (C 2)) Z)) (mvD C Z q) nm g ∧ Same (wBlk w) h h') := by
  refine RUNM.of (by decide +kernel) (Nat.le_of_ble_eq_true rfl) ?_
  refine r_aload_n (pc := 0) dX9_moveThing_0 rfl (by first | rfl | exact isRefV_rf _) ?_
  refine r_iload_n (pc := 1) dX9_moveThing_1 rfl ?_
  refine r_callV1 (pc := 2) dX9_moveThing_2 qX9_thingAt kX9_96 vX9_thingAt (by first | assumption | exact isI.gx (by assumption) | exact isI.gc (by assumption) | exact isW.gx (by assumption) | exact isW.gF (by assumption) | exact isW.gT (by assumption) (by omega) | exact isW.gS (by assumption) (by omega) | exact isW.gK (by assumption) (by omega) | exact isW.g1 (by assumption) | exact isW.g2 (by assumption) | exact isW.g3 (by assumption) | exact isI.gx (isW.i0 (by assumption)) | exact isI.gc (isW.i0 (by assumption)) | exact isI.gx (isW.i1 (by assumption)) | exact isI.gc (isW.i1 (by assumption)) | exact isI.gx (isW.i2 (by assumption)) | exact isI.gc (isW.i2 (by assumption)) | exact isI.gx (isW.i3 (by assumption)) | exact isI.gc (isW.i3 (by assumption)) | exact isI.gx (isW.i4 (by assumption)) | exact isI.gc (isW.i4 (by assumption)) | exact isI.gx (isW.i5 (by assumption)) | exact isI.gc (isW.i5 (by assumption)) | exact isR.gx (by assumption) | exact isRd.gx (by assumption) | exact isSp.gx (by assumption) | exact isI.gx (isR.i (by assumption)) | exact isI.gx (isRd.i (by assumption)) | exact isI.gc (isRd.i (by assumption)) | exact isI.gx (isSp.i (by assumption)) | exact isW.gx (isR.w (by assumption)) | exact isW.gF (isR.w (by assumption)) | fail "no such object") rfl rfl (Nat.le_of_ble_eq_true rfl) (cw_thingAt _ hW hc (i := (q : Int)) ⟨by omega, by omega⟩) (fun v_2 h_2 q_2 => ?_)
  obtain ⟨q1_2, rfl⟩ := q_2
  · obtain rfl := thAt_P (by omega) q1_2
    refine r_astore_n (pc := 5) dX9_moveThing_5 (Nat.le_of_ble_eq_true rfl) (by first | rfl | exact isRefV_rf _) ?_
    dsimp only [lsSt, List.set, mLs, mEnt]
    refine r_aload_n (pc := 6) dX9_moveThing_6 rfl (by first | rfl | exact isRefV_rf _) ?_
    refine r_ifnull (pc := 7) (tgt := 32) dX9_moveThing_7 (by decide) (by first | rfl | exact isRefV_rf _) (fun c_7 => by cases c_7) (fun a_7 c_7 => ?_)
    rw [Int.toNat_natCast]
    refine r_aload_n (pc := 10) dX9_moveThing_10 rfl (by first | rfl | exact isRefV_rf _) ?_
    refine r_iload_n (pc := 11) dX9_moveThing_11 rfl ?_
    refine rc_putT4 (pc := 12) dX9_moveThing_12 fX9_117 (by assumption) (by omega) (fun h_12 hW_12 hS_12 => ?_)
    refine r_aload_n (pc := 15) dX9_moveThing_15 rfl (by first | rfl | exact isRefV_rf _) ?_
    refine r_getf (pc := 16) dX9_moveThing_16 fX9_41 (by first | assumption | exact isI.gx (by assumption) | exact isI.gc (by assumption) | exact isW.gx (by assumption) | exact isW.gF (by assumption) | exact isW.gT (by assumption) (by omega) | exact isW.gS (by assumption) (by omega) | exact isW.gK (by assumption) (by omega) | exact isW.g1 (by assumption) | exact isW.g2 (by assumption) | exact isW.g3 (by assumption) | exact isI.gx (isW.i0 (by assumption)) | exact isI.gc (isW.i0 (by assumption)) | exact isI.gx (isW.i1 (by assumption)) | exact isI.gc (isW.i1 (by assumption)) | exact isI.gx (isW.i2 (by assumption)) | exact isI.gc (isW.i2 (by assumption)) | exact isI.gx (isW.i3 (by assumption)) | exact isI.gc (isW.i3 (by assumption)) | exact isI.gx (isW.i4 (by assumption)) | exact isI.gc (isW.i4 (by assumption)) | exact isI.gx (isW.i5 (by assumption)) | exact isI.gc (isW.i5 (by assumption)) | exact isR.gx (by assumption) | exact isRd.gx (by assumption) | exact isSp.gx (by assumption) | exact isI.gx (isR.i (by assumption)) | exact isI.gx (isRd.i (by assumption)) | exact isI.gc (isRd.i (by assumption)) | exact isI.gx (isSp.i (by assumption)) | exact isW.gx (isR.w (by assumption)) | exact isW.gF (isR.w (by assumption)) | fail "no such object") (by rfl) ?_
    refine r_iload_n (pc := 19) dX9_moveThing_19 rfl ?_
    have i2 := hW_12.i2
    have z2 : updI c (33 + 3 * q) i 10 = (Z : Int) := (updI_n (by omega)).trans hZ
    rw [z2] at i2
    refine r_callV1 (pc := 20) dX9_moveThing_20 qX1_drop kX9_140 vX1_drop (by first | assumption | exact isI.gx (by assumption) | exact isI.gc (by assumption) | exact isW.gx (by assumption) | exact isW.gF (by assumption) | exact isW.gT (by assumption) (by omega) | exact isW.gS (by assumption) (by omega) | exact isW.gK (by assumption) (by omega) | exact isW.g1 (by assumption) | exact isW.g2 (by assumption) | exact isW.g3 (by assumption) | exact isI.gx (isW.i0 (by assumption)) | exact isI.gc (isW.i0 (by assumption)) | exact isI.gx (isW.i1 (by assumption)) | exact isI.gc (isW.i1 (by assumption)) | exact isI.gx (isW.i2 (by assumption)) | exact isI.gc (isW.i2 (by assumption)) | exact isI.gx (isW.i3 (by assumption)) | exact isI.gc (isW.i3 (by assumption)) | exact isI.gx (isW.i4 (by assumption)) | exact isI.gc (isW.i4 (by assumption)) | exact isI.gx (isW.i5 (by assumption)) | exact isI.gc (isW.i5 (by assumption)) | exact isR.gx (by assumption) | exact isRd.gx (by assumption) | exact isSp.gx (by assumption) | exact isI.gx (isR.i (by assumption)) | exact isI.gx (isRd.i (by assumption)) | exact isI.gc (isRd.i (by assumption)) | exact isI.gx (isSp.i (by assumption)) | exact isW.gx (isR.w (by assumption)) | exact isW.gF (isR.w (by assumption)) | fail "no such object") rfl rfl (Nat.le_of_ble_eq_true rfl) (ci_drop _ i2 (x := (q : Int)) ⟨by omega, by omega⟩ (by decide) (by omega) hC) (fun v_20 h_20 q_20 => ?_)
    obtain ⟨rfl, I_20, S_20⟩ := q_20
    have W_20 := hW_12.ofI (j := 2) (by decide) S_20 I_20
    have T_20 := S_20.mono (P' := wBlk w) (fun b hb => iBlk_wBlk (j := 2) hb)
    have rk := cnt_r (notB (q : Int) (C 2)) Z
    refine r_aload_n (pc := 23) dX9_moveThing_23 rfl (by first | rfl | exact isRefV_rf _) ?_
    refine r_getf (pc := 24) dX9_moveThing_24 fX9_41 (by first | assumption | exact isI.gx (by assumption) | exact isI.gc (by assumption) | exact isW.gx (by assumption) | exact isW.gF (by assumption) | exact isW.gT (by assumption) (by omega) | exact isW.gS (by assumption) (by omega) | exact isW.gK (by assumption) (by omega) | exact isW.g1 (by assumption) | exact isW.g2 (by assumption) | exact isW.g3 (by assumption) | exact isI.gx (isW.i0 (by assumption)) | exact isI.gc (isW.i0 (by assumption)) | exact isI.gx (isW.i1 (by assumption)) | exact isI.gc (isW.i1 (by assumption)) | exact isI.gx (isW.i2 (by assumption)) | exact isI.gc (isW.i2 (by assumption)) | exact isI.gx (isW.i3 (by assumption)) | exact isI.gc (isW.i3 (by assumption)) | exact isI.gx (isW.i4 (by assumption)) | exact isI.gc (isW.i4 (by assumption)) | exact isI.gx (isW.i5 (by assumption)) | exact isI.gc (isW.i5 (by assumption)) | exact isR.gx (by assumption) | exact isRd.gx (by assumption) | exact isSp.gx (by assumption) | exact isI.gx (isR.i (by assumption)) | exact isI.gx (isRd.i (by assumption)) | exact isI.gc (isRd.i (by assumption)) | exact isI.gx (isSp.i (by assumption)) | exact isW.gx (isR.w (by assumption)) | exact isW.gF (isR.w (by assumption)) | fail "no such object") (by rfl) ?_
    refine r_iload_n (pc := 27) dX9_moveThing_27 rfl ?_
    refine r_callV1 (pc := 28) dX9_moveThing_28 qX1_append kX9_123 vX1_append (by first | assumption | exact isI.gx (by assumption) | exact isI.gc (by assumption) | exact isW.gx (by assumption) | exact isW.gF (by assumption) | exact isW.gT (by assumption) (by omega) | exact isW.gS (by assumption) (by omega) | exact isW.gK (by assumption) (by omega) | exact isW.g1 (by assumption) | exact isW.g2 (by assumption) | exact isW.g3 (by assumption) | exact isI.gx (isW.i0 (by assumption)) | exact isI.gc (isW.i0 (by assumption)) | exact isI.gx (isW.i1 (by assumption)) | exact isI.gc (isW.i1 (by assumption)) | exact isI.gx (isW.i2 (by assumption)) | exact isI.gc (isW.i2 (by assumption)) | exact isI.gx (isW.i3 (by assumption)) | exact isI.gc (isW.i3 (by assumption)) | exact isI.gx (isW.i4 (by assumption)) | exact isI.gc (isW.i4 (by assumption)) | exact isI.gx (isW.i5 (by assumption)) | exact isI.gc (isW.i5 (by assumption)) | exact isR.gx (by assumption) | exact isRd.gx (by assumption) | exact isSp.gx (by assumption) | exact isI.gx (isR.i (by assumption)) | exact isI.gx (isRd.i (by assumption)) | exact isI.gc (isRd.i (by assumption)) | exact isI.gx (isSp.i (by assumption)) | exact isW.gx (isR.w (by assumption)) | exact isW.gF (isR.w (by assumption)) | fail "no such object") rfl rfl (Nat.le_of_ble_eq_true rfl) (ci_append _ I_20 (by decide) ⟨by omega, by omega⟩ (q : Int)) (fun v_28 h_28 q_28 => ?_)
    obtain ⟨rfl, I_28, S_28⟩ := q_28
    rw [if_pos (by omega), if_pos (by omega)] at I_28
    have W_28 := W_20.ofI (j := 2) (by decide) S_28 I_28
    have T_28 := S_28.mono (P' := wBlk w) (fun b hb => iBlk_wBlk (j := 2) hb)
    refine r_pop (pc := 31) dX9_moveThing_31 (by first | rfl | (cases ‹Option Nat› <;> rfl)) ?_
    refine r_return (pc := 32) dX9_moveThing_32 rfl ?_
    exact ⟨rfl, W_28, (hS_12.trans T_20).trans T_28⟩
end mg_93
section mg_94
/-! ===== the class: a world becomes another ===== -/
def mixR (c c2 : Nat → Int) (lo hi : Nat) : Nat → Int := fun q => if lo ≤ q ∧ q < hi then c2 q else c q
def mixL (nm nm2 : Nat → Int64) (t : Nat) : Nat → Int64 := fun q => if q < t then nm2 q else nm q
def mixE (g g2 : Nat → Option Nat) (t : Nat) : Nat → Option Nat := fun j => if j < 2 * t ∧ j % 2 = 0 then g2 j else g j
def mixO (g g2 : Nat → Option Nat) (lo hi : Nat) : Nat → Option Nat := fun j => if lo ≤ j ∧ j < hi then g2 j else g j
theorem mixR_0 (c c2 : Nat → Int) (lo : Nat) : mixR c c2 lo lo = c := by
  funext q; unfold mixR; rw [if_neg (by omega)]
theorem mixR_s (c c2 : Nat → Int) {lo hi k : Nat} (h : lo ≤ hi) (e : k = hi) : updI (mixR c c2 lo hi) k (c2 k) = mixR c c2 lo (hi + 1) := by
  subst e; funext q; unfold updI mixR
  repeat' split
  all_goals first | rfl | (exfalso; omega) | (subst_vars; rfl)
theorem mixL_0 (c c2 : Nat → Int64) : mixL c c2 0 = c := by
  funext q; unfold mixL; rw [if_neg (by omega)]
theorem mixL_s (c c2 : Nat → Int64) (t : Nat) : updL (mixL c c2 t) t (c2 t) = mixL c c2 (t + 1) := by
  funext q; unfold updL mixL
  repeat' split
  all_goals first | rfl | (exfalso; omega) | (subst_vars; rfl)
theorem mixE_0 (c c2 : Nat → Option Nat) : mixE c c2 0 = c := by
  funext q; unfold mixE; rw [if_neg (by omega)]
theorem mixE_s (c c2 : Nat → Option Nat) (t : Nat) : updO (mixE c c2 t) (2 * t) (c2 (2 * t)) = mixE c c2 (t + 1) := by
  funext q; unfold updO mixE
  repeat' split
  all_goals first | rfl | (exfalso; omega) | (subst_vars; rfl)
theorem mixO_0 (c c2 : Nat → Option Nat) (lo : Nat) : mixO c c2 lo lo = c := by
  funext q; unfold mixO; rw [if_neg (by omega)]
def thC (c c2 : Nat → Int) (q : Nat) : Nat → Int := updI (updI (updI c (32 + 3 * q) (c2 (32 + 3 * q))) (33 + 3 * q) (c2 (33 + 3 * q))) (34 + 3 * q) (c2 (34 + 3 * q))
def scC (c c2 : Nat → Int) (q : Nat) : Nat → Int := updI (updI (updI c (304 + 3 * q) (c2 (304 + 3 * q))) (305 + 3 * q) (c2 (305 + 3 * q))) (306 + 3 * q) (c2 (306 + 3 * q))
theorem thC_m (c c2 : Nat → Int) (t : Nat) : thC (mixR c c2 32 (32 + 3 * t)) c2 t = mixR c c2 32 (32 + 3 * (t + 1)) := by
  unfold thC
  rw [mixR_s _ _ (by omega) rfl, mixR_s _ _ (by omega) (by omega), mixR_s _ _ (by omega) (by omega)]
  congr 1
theorem scC_m (c c2 : Nat → Int) (t : Nat) : scC (mixR c c2 304 (304 + 3 * t)) c2 t = mixR c c2 304 (304 + 3 * (t + 1)) := by
  unfold scC
  rw [mixR_s _ _ (by omega) rfl, mixR_s _ _ (by omega) (by omega), mixR_s _ _ (by omega) (by omega)]
  congr 1
set_option maxHeartbeats 4000000 in
set_option maxRecDepth 100000 in
theorem cb_Thing {G : mG} {l : Launch} (d : Nat) {h : mH} {w : Nat} {c : Nat → Int} {C : Nat → Nat → Int} {nm : Nat → Int64} {g : Nat → Option Nat} (hW : isW h w c C nm g) {w2 : Nat} {c2 : Nat → Int} {C2 : Nat → Nat → Int} {nm2 : Nat → Int64} {g2 : Nat → Option Nat} (hW2 : isW h w2 c2 C2 nm2 g2) (hdis : w + 177 ≤ w2 ∨ w2 + 177 ≤ w) {q : Nat} (hq : q < 90) : RUNM G l (d) mX8_become [.ref (wT w q), .ref (wT w2 q)] h (fun v h' => v = none ∧ isW h' w (thC c c2 q) C (updL nm q (nm2 q)) (updO g (2 * q) (g2 (2 * q))) ∧ Same (wBlk w) h h') := by
  refine RUNM.of (by decide +kernel) (Nat.le_of_ble_eq_true rfl) ?_
  refine r_aload_n (pc := 0) dX8_become_0 rfl (by first | rfl | exact isRefV_rf _) ?_
  refine r_aload_n (pc := 1) dX8_become_1 rfl (by first | rfl | exact isRefV_rf _) ?_
  refine r_getf (pc := 2) dX8_become_2 fX8_7 (by first | assumption | exact isI.gx (by assumption) | exact isI.gc (by assumption) | exact isW.gx (by assumption) | exact isW.gF (by assumption) | exact isW.gT (by assumption) (by omega) | exact isW.gS (by assumption) (by omega) | exact isW.gK (by assumption) (by omega) | exact isW.g1 (by assumption) | exact isW.g2 (by assumption) | exact isW.g3 (by assumption) | exact isI.gx (isW.i0 (by assumption)) | exact isI.gc (isW.i0 (by assumption)) | exact isI.gx (isW.i1 (by assumption)) | exact isI.gc (isW.i1 (by assumption)) | exact isI.gx (isW.i2 (by assumption)) | exact isI.gc (isW.i2 (by assumption)) | exact isI.gx (isW.i3 (by assumption)) | exact isI.gc (isW.i3 (by assumption)) | exact isI.gx (isW.i4 (by assumption)) | exact isI.gc (isW.i4 (by assumption)) | exact isI.gx (isW.i5 (by assumption)) | exact isI.gc (isW.i5 (by assumption)) | exact isR.gx (by assumption) | exact isRd.gx (by assumption) | exact isSp.gx (by assumption) | exact isI.gx (isR.i (by assumption)) | exact isI.gx (isRd.i (by assumption)) | exact isI.gc (isRd.i (by assumption)) | exact isI.gx (isSp.i (by assumption)) | exact isW.gx (isR.w (by assumption)) | exact isW.gF (isR.w (by assumption)) | fail "no such object") (by rfl) ?_
  refine rc_putT0 (pc := 5) dX8_become_5 fX8_7 (by assumption) (by omega) (fun h_5 hW_5 hS_5 => ?_)
  have hV_5 := hW2.kept hS_5 (fun b hb hb2 => by unfold wBlk at hb hb2; omega)
  refine r_aload_n (pc := 8) dX8_become_8 rfl (by first | rfl | exact isRefV_rf _) ?_
  refine r_aload_n (pc := 9) dX8_become_9 rfl (by first | rfl | exact isRefV_rf _) ?_
  refine r_getf (pc := 10) dX8_become_10 fX8_13 (by first | assumption | exact isI.gx (by assumption) | exact isI.gc (by assumption) | exact isW.gx (by assumption) | exact isW.gF (by assumption) | exact isW.gT (by assumption) (by omega) | exact isW.gS (by assumption) (by omega) | exact isW.gK (by assumption) (by omega) | exact isW.g1 (by assumption) | exact isW.g2 (by assumption) | exact isW.g3 (by assumption) | exact isI.gx (isW.i0 (by assumption)) | exact isI.gc (isW.i0 (by assumption)) | exact isI.gx (isW.i1 (by assumption)) | exact isI.gc (isW.i1 (by assumption)) | exact isI.gx (isW.i2 (by assumption)) | exact isI.gc (isW.i2 (by assumption)) | exact isI.gx (isW.i3 (by assumption)) | exact isI.gc (isW.i3 (by assumption)) | exact isI.gx (isW.i4 (by assumption)) | exact isI.gc (isW.i4 (by assumption)) | exact isI.gx (isW.i5 (by assumption)) | exact isI.gc (isW.i5 (by assumption)) | exact isR.gx (by assumption) | exact isRd.gx (by assumption) | exact isSp.gx (by assumption) | exact isI.gx (isR.i (by assumption)) | exact isI.gx (isRd.i (by assumption)) | exact isI.gc (isRd.i (by assumption)) | exact isI.gx (isSp.i (by assumption)) | exact isW.gx (isR.w (by assumption)) | exact isW.gF (isR.w (by assumption)) | fail "no such object") (by rfl) ?_
  refine rc_putT1 (pc := 13) dX8_become_13 fX8_13 (by assumption) (by omega) (fun h_13 hW_13 hS_13 => ?_)
  have hV_13 := hV_5.kept hS_13 (fun b hb hb2 => by unfold wBlk at hb hb2; omega)
  refine r_aload_n (pc := 16) dX8_become_16 rfl (by first | rfl | exact isRefV_rf _) ?_
  refine r_aload_n (pc := 17) dX8_become_17 rfl (by first | rfl | exact isRefV_rf _) ?_
  refine r_getf (pc := 18) dX8_become_18 fX8_17 (by first | assumption | exact isI.gx (by assumption) | exact isI.gc (by assumption) | exact isW.gx (by assumption) | exact isW.gF (by assumption) | exact isW.gT (by assumption) (by omega) | exact isW.gS (by assumption) (by omega) | exact isW.gK (by assumption) (by omega) | exact isW.g1 (by assumption) | exact isW.g2 (by assumption) | exact isW.g3 (by assumption) | exact isI.gx (isW.i0 (by assumption)) | exact isI.gc (isW.i0 (by assumption)) | exact isI.gx (isW.i1 (by assumption)) | exact isI.gc (isW.i1 (by assumption)) | exact isI.gx (isW.i2 (by assumption)) | exact isI.gc (isW.i2 (by assumption)) | exact isI.gx (isW.i3 (by assumption)) | exact isI.gc (isW.i3 (by assumption)) | exact isI.gx (isW.i4 (by assumption)) | exact isI.gc (isW.i4 (by assumption)) | exact isI.gx (isW.i5 (by assumption)) | exact isI.gc (isW.i5 (by assumption)) | exact isR.gx (by assumption) | exact isRd.gx (by assumption) | exact isSp.gx (by assumption) | exact isI.gx (isR.i (by assumption)) | exact isI.gx (isRd.i (by assumption)) | exact isI.gc (isRd.i (by assumption)) | exact isI.gx (isSp.i (by assumption)) | exact isW.gx (isR.w (by assumption)) | exact isW.gF (isR.w (by assumption)) | fail "no such object") (by rfl) ?_
  refine rc_putT3 (pc := 21) dX8_become_21 fX8_17 (by assumption) (by omega) (fun h_21 hW_21 hS_21 => ?_)
  have hV_21 := hV_13.kept hS_21 (fun b hb hb2 => by unfold wBlk at hb hb2; omega)
  refine r_aload_n (pc := 24) dX8_become_24 rfl (by first | rfl | exact isRefV_rf _) ?_
  refine r_aload_n (pc := 25) dX8_become_25 rfl (by first | rfl | exact isRefV_rf _) ?_
  refine r_getf (pc := 26) dX8_become_26 fX8_21 (by first | assumption | exact isI.gx (by assumption) | exact isI.gc (by assumption) | exact isW.gx (by assumption) | exact isW.gF (by assumption) | exact isW.gT (by assumption) (by omega) | exact isW.gS (by assumption) (by omega) | exact isW.gK (by assumption) (by omega) | exact isW.g1 (by assumption) | exact isW.g2 (by assumption) | exact isW.g3 (by assumption) | exact isI.gx (isW.i0 (by assumption)) | exact isI.gc (isW.i0 (by assumption)) | exact isI.gx (isW.i1 (by assumption)) | exact isI.gc (isW.i1 (by assumption)) | exact isI.gx (isW.i2 (by assumption)) | exact isI.gc (isW.i2 (by assumption)) | exact isI.gx (isW.i3 (by assumption)) | exact isI.gc (isW.i3 (by assumption)) | exact isI.gx (isW.i4 (by assumption)) | exact isI.gc (isW.i4 (by assumption)) | exact isI.gx (isW.i5 (by assumption)) | exact isI.gc (isW.i5 (by assumption)) | exact isR.gx (by assumption) | exact isRd.gx (by assumption) | exact isSp.gx (by assumption) | exact isI.gx (isR.i (by assumption)) | exact isI.gx (isRd.i (by assumption)) | exact isI.gc (isRd.i (by assumption)) | exact isI.gx (isSp.i (by assumption)) | exact isW.gx (isR.w (by assumption)) | exact isW.gF (isR.w (by assumption)) | fail "no such object") (by rfl) ?_
  refine rc_putT4 (pc := 29) dX8_become_29 fX8_21 (by assumption) (by omega) (fun h_29 hW_29 hS_29 => ?_)
  have hV_29 := hV_21.kept hS_29 (fun b hb hb2 => by unfold wBlk at hb hb2; omega)
  refine r_aload_n (pc := 32) dX8_become_32 rfl (by first | rfl | exact isRefV_rf _) ?_
  refine r_aload_n (pc := 33) dX8_become_33 rfl (by first | rfl | exact isRefV_rf _) ?_
  refine r_getf (pc := 34) dX8_become_34 fX8_24 (by first | assumption | exact isI.gx (by assumption) | exact isI.gc (by assumption) | exact isW.gx (by assumption) | exact isW.gF (by assumption) | exact isW.gT (by assumption) (by omega) | exact isW.gS (by assumption) (by omega) | exact isW.gK (by assumption) (by omega) | exact isW.g1 (by assumption) | exact isW.g2 (by assumption) | exact isW.g3 (by assumption) | exact isI.gx (isW.i0 (by assumption)) | exact isI.gc (isW.i0 (by assumption)) | exact isI.gx (isW.i1 (by assumption)) | exact isI.gc (isW.i1 (by assumption)) | exact isI.gx (isW.i2 (by assumption)) | exact isI.gc (isW.i2 (by assumption)) | exact isI.gx (isW.i3 (by assumption)) | exact isI.gc (isW.i3 (by assumption)) | exact isI.gx (isW.i4 (by assumption)) | exact isI.gc (isW.i4 (by assumption)) | exact isI.gx (isW.i5 (by assumption)) | exact isI.gc (isW.i5 (by assumption)) | exact isR.gx (by assumption) | exact isRd.gx (by assumption) | exact isSp.gx (by assumption) | exact isI.gx (isR.i (by assumption)) | exact isI.gx (isRd.i (by assumption)) | exact isI.gc (isRd.i (by assumption)) | exact isI.gx (isSp.i (by assumption)) | exact isW.gx (isR.w (by assumption)) | exact isW.gF (isR.w (by assumption)) | fail "no such object") (by rfl) ?_
  refine rc_putT5 (pc := 37) dX8_become_37 fX8_24 (by assumption) (by omega) (fun h_37 hW_37 hS_37 => ?_)
  refine r_return (pc := 40) dX8_become_40 rfl ?_
  exact ⟨rfl, hW_37, (((hS_5.trans hS_13).trans hS_21).trans hS_29).trans hS_37⟩
set_option maxHeartbeats 4000000 in
set_option maxRecDepth 100000 in
theorem cb_Scope {G : mG} {l : Launch} (d : Nat) {h : mH} {w : Nat} {c : Nat → Int} {C : Nat → Nat → Int} {nm : Nat → Int64} {g : Nat → Option Nat} (hW : isW h w c C nm g) {w2 : Nat} {c2 : Nat → Int} {C2 : Nat → Nat → Int} {nm2 : Nat → Int64} {g2 : Nat → Option Nat} (hW2 : isW h w2 c2 C2 nm2 g2) (hdis : w + 177 ≤ w2 ∨ w2 + 177 ≤ w) {q : Nat} (hq : q < 60) : RUNM G l (d) mX4_become [.ref (wS w q), .ref (wS w2 q)] h (fun v h' => v = none ∧ isW h' w (scC c c2 q) C nm g ∧ Same (wBlk w) h h') := by
  refine RUNM.of (by decide +kernel) (Nat.le_of_ble_eq_true rfl) ?_
  refine r_aload_n (pc := 0) dX4_become_0 rfl (by first | rfl | exact isRefV_rf _) ?_
  refine r_aload_n (pc := 1) dX4_become_1 rfl (by first | rfl | exact isRefV_rf _) ?_
  refine r_getf (pc := 2) dX4_become_2 fX4_7 (by first | assumption | exact isI.gx (by assumption) | exact isI.gc (by assumption) | exact isW.gx (by assumption) | exact isW.gF (by assumption) | exact isW.gT (by assumption) (by omega) | exact isW.gS (by assumption) (by omega) | exact isW.gK (by assumption) (by omega) | exact isW.g1 (by assumption) | exact isW.g2 (by assumption) | exact isW.g3 (by assumption) | exact isI.gx (isW.i0 (by assumption)) | exact isI.gc (isW.i0 (by assumption)) | exact isI.gx (isW.i1 (by assumption)) | exact isI.gc (isW.i1 (by assumption)) | exact isI.gx (isW.i2 (by assumption)) | exact isI.gc (isW.i2 (by assumption)) | exact isI.gx (isW.i3 (by assumption)) | exact isI.gc (isW.i3 (by assumption)) | exact isI.gx (isW.i4 (by assumption)) | exact isI.gc (isW.i4 (by assumption)) | exact isI.gx (isW.i5 (by assumption)) | exact isI.gc (isW.i5 (by assumption)) | exact isR.gx (by assumption) | exact isRd.gx (by assumption) | exact isSp.gx (by assumption) | exact isI.gx (isR.i (by assumption)) | exact isI.gx (isRd.i (by assumption)) | exact isI.gc (isRd.i (by assumption)) | exact isI.gx (isSp.i (by assumption)) | exact isW.gx (isR.w (by assumption)) | exact isW.gF (isR.w (by assumption)) | fail "no such object") (by rfl) ?_
  refine rc_putS0 (pc := 5) dX4_become_5 fX4_7 (by assumption) (by omega) (fun h_5 hW_5 hS_5 => ?_)
  have hV_5 := hW2.kept hS_5 (fun b hb hb2 => by unfold wBlk at hb hb2; omega)
  refine r_aload_n (pc := 8) dX4_become_8 rfl (by first | rfl | exact isRefV_rf _) ?_
  refine r_aload_n (pc := 9) dX4_become_9 rfl (by first | rfl | exact isRefV_rf _) ?_
  refine r_getf (pc := 10) dX4_become_10 fX4_13 (by first | assumption | exact isI.gx (by assumption) | exact isI.gc (by assumption) | exact isW.gx (by assumption) | exact isW.gF (by assumption) | exact isW.gT (by assumption) (by omega) | exact isW.gS (by assumption) (by omega) | exact isW.gK (by assumption) (by omega) | exact isW.g1 (by assumption) | exact isW.g2 (by assumption) | exact isW.g3 (by assumption) | exact isI.gx (isW.i0 (by assumption)) | exact isI.gc (isW.i0 (by assumption)) | exact isI.gx (isW.i1 (by assumption)) | exact isI.gc (isW.i1 (by assumption)) | exact isI.gx (isW.i2 (by assumption)) | exact isI.gc (isW.i2 (by assumption)) | exact isI.gx (isW.i3 (by assumption)) | exact isI.gc (isW.i3 (by assumption)) | exact isI.gx (isW.i4 (by assumption)) | exact isI.gc (isW.i4 (by assumption)) | exact isI.gx (isW.i5 (by assumption)) | exact isI.gc (isW.i5 (by assumption)) | exact isR.gx (by assumption) | exact isRd.gx (by assumption) | exact isSp.gx (by assumption) | exact isI.gx (isR.i (by assumption)) | exact isI.gx (isRd.i (by assumption)) | exact isI.gc (isRd.i (by assumption)) | exact isI.gx (isSp.i (by assumption)) | exact isW.gx (isR.w (by assumption)) | exact isW.gF (isR.w (by assumption)) | fail "no such object") (by rfl) ?_
  refine rc_putS1 (pc := 13) dX4_become_13 fX4_13 (by assumption) (by omega) (fun h_13 hW_13 hS_13 => ?_)
  have hV_13 := hV_5.kept hS_13 (fun b hb hb2 => by unfold wBlk at hb hb2; omega)
  refine r_aload_n (pc := 16) dX4_become_16 rfl (by first | rfl | exact isRefV_rf _) ?_
  refine r_aload_n (pc := 17) dX4_become_17 rfl (by first | rfl | exact isRefV_rf _) ?_
  refine r_getf (pc := 18) dX4_become_18 fX4_16 (by first | assumption | exact isI.gx (by assumption) | exact isI.gc (by assumption) | exact isW.gx (by assumption) | exact isW.gF (by assumption) | exact isW.gT (by assumption) (by omega) | exact isW.gS (by assumption) (by omega) | exact isW.gK (by assumption) (by omega) | exact isW.g1 (by assumption) | exact isW.g2 (by assumption) | exact isW.g3 (by assumption) | exact isI.gx (isW.i0 (by assumption)) | exact isI.gc (isW.i0 (by assumption)) | exact isI.gx (isW.i1 (by assumption)) | exact isI.gc (isW.i1 (by assumption)) | exact isI.gx (isW.i2 (by assumption)) | exact isI.gc (isW.i2 (by assumption)) | exact isI.gx (isW.i3 (by assumption)) | exact isI.gc (isW.i3 (by assumption)) | exact isI.gx (isW.i4 (by assumption)) | exact isI.gc (isW.i4 (by assumption)) | exact isI.gx (isW.i5 (by assumption)) | exact isI.gc (isW.i5 (by assumption)) | exact isR.gx (by assumption) | exact isRd.gx (by assumption) | exact isSp.gx (by assumption) | exact isI.gx (isR.i (by assumption)) | exact isI.gx (isRd.i (by assumption)) | exact isI.gc (isRd.i (by assumption)) | exact isI.gx (isSp.i (by assumption)) | exact isW.gx (isR.w (by assumption)) | exact isW.gF (isR.w (by assumption)) | fail "no such object") (by rfl) ?_
  refine rc_putS2 (pc := 21) dX4_become_21 fX4_16 (by assumption) (by omega) (fun h_21 hW_21 hS_21 => ?_)
  refine r_return (pc := 24) dX4_become_24 rfl ?_
  exact ⟨rfl, hW_21, (hS_5.trans hS_13).trans hS_21⟩
def tbC (c c2 : Nat → Int) (q : Nat) : Nat → Int := updI (updI (updI (updI (updI (updI (updI (tsC c q (c2 (493 + 9 * q)) (c2 (490 + 9 * q))) (488 + 9 * q) (c2 (488 + 9 * q))) (489 + 9 * q) (c2 (489 + 9 * q))) (491 + 9 * q) (c2 (491 + 9 * q))) (492 + 9 * q) (c2 (492 + 9 * q))) (494 + 9 * q) (c2 (494 + 9 * q))) (495 + 9 * q) (c2 (495 + 9 * q))) (496 + 9 * q) (c2 (496 + 9 * q))
def tbG (g g2 : Nat → Option Nat) (q : Nat) : Nat → Option Nat := updO (tsG g q (g2 (180 + 2 * q))) (181 + 2 * q) (g2 (181 + 2 * q))
theorem tbC_m (c c2 : Nat → Int) (t : Nat) : tbC (mixR c c2 488 (488 + 9 * t)) c2 t = mixR c c2 488 (488 + 9 * (t + 1)) := by
  funext q
  have e : q = 488 + 9 * t ∨ q = 489 + 9 * t ∨ q = 490 + 9 * t ∨ q = 491 + 9 * t ∨ q = 492 + 9 * t ∨ q = 493 + 9 * t ∨ q = 494 + 9 * t ∨ q = 495 + 9 * t ∨ q = 496 + 9 * t ∨ (q < 488 + 9 * t ∨ 496 + 9 * t < q) := by omega
  unfold tbC tsC
  rcases e with e | e | e | e | e | e | e | e | e | e
  all_goals (try subst e)
  all_goals repeat (first | rw [updI_s] | rw [updI_n (by omega)])
  all_goals unfold mixR
  all_goals repeat' split
  all_goals first | rfl | (exfalso; omega)
theorem tbG_m (g g2 : Nat → Option Nat) (t : Nat) : tbG (mixO g g2 180 (180 + 2 * t)) g2 t = mixO g g2 180 (180 + 2 * (t + 1)) := by
  funext q
  unfold tbG tsG updO mixO
  repeat' split
  all_goals first | rfl | (exfalso; omega) | (subst_vars; rfl)
set_option maxHeartbeats 4000000 in
set_option maxRecDepth 100000 in
theorem cb_Task {G : mG} {l : Launch} (d : Nat) {h : mH} {w : Nat} {c : Nat → Int} {C : Nat → Nat → Int} {nm : Nat → Int64} {g : Nat → Option Nat} (hW : isW h w c C nm g) {w2 : Nat} {c2 : Nat → Int} {C2 : Nat → Nat → Int} {nm2 : Nat → Int64} {g2 : Nat → Option Nat} (hW2 : isW h w2 c2 C2 nm2 g2) (hdis : w + 177 ≤ w2 ∨ w2 + 177 ≤ w) {q : Nat} (hq : q < 10) (hb : c2 (496 + 9 * q) = 0 ∨ c2 (496 + 9 * q) = 1) : RUNM G l (d + 1) mX7_become [.ref (wK w q), .ref (wK w2 q)] h (fun v h' => v = none ∧ isW h' w (tbC c c2 q) C nm (tbG g g2 q) ∧ Same (wBlk w) h h') := by
  refine RUNM.of (by decide +kernel) (Nat.le_of_ble_eq_true rfl) ?_
  have nb : narrow .boolean (.int (J (c2 (496 + 9 * q)))) = .int (J (c2 (496 + 9 * q))) := by
    rcases hb with e | e <;> rw [e] <;> first | exact nar_J0 | exact nar_J1
  have fb : fits .boolean (.int (J (c2 (496 + 9 * q)))) = true := by
    rcases hb with e | e <;> rw [e] <;> first | exact fit_J0 | exact fit_J1
  refine r_aload_n (pc := 0) dX7_become_0 rfl (by first | rfl | exact isRefV_rf _) ?_
  refine r_aload_n (pc := 1) dX7_become_1 rfl (by first | rfl | exact isRefV_rf _) ?_
  refine r_getf (pc := 2) dX7_become_2 fX7_9 (by first | assumption | exact isI.gx (by assumption) | exact isI.gc (by assumption) | exact isW.gx (by assumption) | exact isW.gF (by assumption) | exact isW.gT (by assumption) (by omega) | exact isW.gS (by assumption) (by omega) | exact isW.gK (by assumption) (by omega) | exact isW.g1 (by assumption) | exact isW.g2 (by assumption) | exact isW.g3 (by assumption) | exact isI.gx (isW.i0 (by assumption)) | exact isI.gc (isW.i0 (by assumption)) | exact isI.gx (isW.i1 (by assumption)) | exact isI.gc (isW.i1 (by assumption)) | exact isI.gx (isW.i2 (by assumption)) | exact isI.gc (isW.i2 (by assumption)) | exact isI.gx (isW.i3 (by assumption)) | exact isI.gc (isW.i3 (by assumption)) | exact isI.gx (isW.i4 (by assumption)) | exact isI.gc (isW.i4 (by assumption)) | exact isI.gx (isW.i5 (by assumption)) | exact isI.gc (isW.i5 (by assumption)) | exact isR.gx (by assumption) | exact isRd.gx (by assumption) | exact isSp.gx (by assumption) | exact isI.gx (isR.i (by assumption)) | exact isI.gx (isRd.i (by assumption)) | exact isI.gc (isRd.i (by assumption)) | exact isI.gx (isSp.i (by assumption)) | exact isW.gx (isR.w (by assumption)) | exact isW.gF (isR.w (by assumption)) | fail "no such object") (by rfl) ?_
  refine r_aload_n (pc := 5) dX7_become_5 rfl (by first | rfl | exact isRefV_rf _) ?_
  refine r_getf (pc := 6) dX7_become_6 fX7_34 (by first | assumption | exact isI.gx (by assumption) | exact isI.gc (by assumption) | exact isW.gx (by assumption) | exact isW.gF (by assumption) | exact isW.gT (by assumption) (by omega) | exact isW.gS (by assumption) (by omega) | exact isW.gK (by assumption) (by omega) | exact isW.g1 (by assumption) | exact isW.g2 (by assumption) | exact isW.g3 (by assumption) | exact isI.gx (isW.i0 (by assumption)) | exact isI.gc (isW.i0 (by assumption)) | exact isI.gx (isW.i1 (by assumption)) | exact isI.gc (isW.i1 (by assumption)) | exact isI.gx (isW.i2 (by assumption)) | exact isI.gc (isW.i2 (by assumption)) | exact isI.gx (isW.i3 (by assumption)) | exact isI.gc (isW.i3 (by assumption)) | exact isI.gx (isW.i4 (by assumption)) | exact isI.gc (isW.i4 (by assumption)) | exact isI.gx (isW.i5 (by assumption)) | exact isI.gc (isW.i5 (by assumption)) | exact isR.gx (by assumption) | exact isRd.gx (by assumption) | exact isSp.gx (by assumption) | exact isI.gx (isR.i (by assumption)) | exact isI.gx (isRd.i (by assumption)) | exact isI.gc (isRd.i (by assumption)) | exact isI.gx (isSp.i (by assumption)) | exact isW.gx (isR.w (by assumption)) | exact isW.gF (isR.w (by assumption)) | fail "no such object") (by rfl) ?_
  refine r_aload_n (pc := 9) dX7_become_9 rfl (by first | rfl | exact isRefV_rf _) ?_
  refine r_getf (pc := 10) dX7_become_10 fX7_25 (by first | assumption | exact isI.gx (by assumption) | exact isI.gc (by assumption) | exact isW.gx (by assumption) | exact isW.gF (by assumption) | exact isW.gT (by assumption) (by omega) | exact isW.gS (by assumption) (by omega) | exact isW.gK (by assumption) (by omega) | exact isW.g1 (by assumption) | exact isW.g2 (by assumption) | exact isW.g3 (by assumption) | exact isI.gx (isW.i0 (by assumption)) | exact isI.gc (isW.i0 (by assumption)) | exact isI.gx (isW.i1 (by assumption)) | exact isI.gc (isW.i1 (by assumption)) | exact isI.gx (isW.i2 (by assumption)) | exact isI.gc (isW.i2 (by assumption)) | exact isI.gx (isW.i3 (by assumption)) | exact isI.gc (isW.i3 (by assumption)) | exact isI.gx (isW.i4 (by assumption)) | exact isI.gc (isW.i4 (by assumption)) | exact isI.gx (isW.i5 (by assumption)) | exact isI.gc (isW.i5 (by assumption)) | exact isR.gx (by assumption) | exact isRd.gx (by assumption) | exact isSp.gx (by assumption) | exact isI.gx (isR.i (by assumption)) | exact isI.gx (isRd.i (by assumption)) | exact isI.gc (isRd.i (by assumption)) | exact isI.gx (isSp.i (by assumption)) | exact isW.gx (isR.w (by assumption)) | exact isW.gF (isR.w (by assumption)) | fail "no such object") (by rfl) ?_
  refine r_callV3 (pc := 13) dX7_become_13 qX7_start kX7_47 vX7_start (by first | assumption | exact isI.gx (by assumption) | exact isI.gc (by assumption) | exact isW.gx (by assumption) | exact isW.gF (by assumption) | exact isW.gT (by assumption) (by omega) | exact isW.gS (by assumption) (by omega) | exact isW.gK (by assumption) (by omega) | exact isW.g1 (by assumption) | exact isW.g2 (by assumption) | exact isW.g3 (by assumption) | exact isI.gx (isW.i0 (by assumption)) | exact isI.gc (isW.i0 (by assumption)) | exact isI.gx (isW.i1 (by assumption)) | exact isI.gc (isW.i1 (by assumption)) | exact isI.gx (isW.i2 (by assumption)) | exact isI.gc (isW.i2 (by assumption)) | exact isI.gx (isW.i3 (by assumption)) | exact isI.gc (isW.i3 (by assumption)) | exact isI.gx (isW.i4 (by assumption)) | exact isI.gc (isW.i4 (by assumption)) | exact isI.gx (isW.i5 (by assumption)) | exact isI.gc (isW.i5 (by assumption)) | exact isR.gx (by assumption) | exact isRd.gx (by assumption) | exact isSp.gx (by assumption) | exact isI.gx (isR.i (by assumption)) | exact isI.gx (isRd.i (by assumption)) | exact isI.gc (isRd.i (by assumption)) | exact isI.gx (isSp.i (by assumption)) | exact isW.gx (isR.w (by assumption)) | exact isW.gF (isR.w (by assumption)) | fail "no such object") rfl rfl (Nat.le_of_ble_eq_true rfl) (cq_start _ hW (q := q) hq (r := g2 (180 + 2 * q)) (i := c2 (493 + 9 * q)) (p := c2 (490 + 9 * q))) (fun v_13 h_13 q_13 => ?_)
  obtain ⟨rfl, hW_13, hS_13⟩ := q_13
  have hV_13 := hW2.kept hS_13 (fun b hb hb2 => by unfold wBlk at hb hb2; omega)
  refine r_aload_n (pc := 16) dX7_become_16 rfl (by first | rfl | exact isRefV_rf _) ?_
  refine r_aload_n (pc := 17) dX7_become_17 rfl (by first | rfl | exact isRefV_rf _) ?_
  refine r_getf (pc := 18) dX7_become_18 fX7_15 (by first | assumption | exact isI.gx (by assumption) | exact isI.gc (by assumption) | exact isW.gx (by assumption) | exact isW.gF (by assumption) | exact isW.gT (by assumption) (by omega) | exact isW.gS (by assumption) (by omega) | exact isW.gK (by assumption) (by omega) | exact isW.g1 (by assumption) | exact isW.g2 (by assumption) | exact isW.g3 (by assumption) | exact isI.gx (isW.i0 (by assumption)) | exact isI.gc (isW.i0 (by assumption)) | exact isI.gx (isW.i1 (by assumption)) | exact isI.gc (isW.i1 (by assumption)) | exact isI.gx (isW.i2 (by assumption)) | exact isI.gc (isW.i2 (by assumption)) | exact isI.gx (isW.i3 (by assumption)) | exact isI.gc (isW.i3 (by assumption)) | exact isI.gx (isW.i4 (by assumption)) | exact isI.gc (isW.i4 (by assumption)) | exact isI.gx (isW.i5 (by assumption)) | exact isI.gc (isW.i5 (by assumption)) | exact isR.gx (by assumption) | exact isRd.gx (by assumption) | exact isSp.gx (by assumption) | exact isI.gx (isR.i (by assumption)) | exact isI.gx (isRd.i (by assumption)) | exact isI.gc (isRd.i (by assumption)) | exact isI.gx (isSp.i (by assumption)) | exact isW.gx (isR.w (by assumption)) | exact isW.gF (isR.w (by assumption)) | fail "no such object") (by rfl) ?_
  refine rc_putK1 (pc := 21) dX7_become_21 fX7_15 (by assumption) (by omega) (fun h_21 hW_21 hS_21 => ?_)
  have hV_21 := hV_13.kept hS_21 (fun b hb hb2 => by unfold wBlk at hb hb2; omega)
  refine r_aload_n (pc := 24) dX7_become_24 rfl (by first | rfl | exact isRefV_rf _) ?_
  refine r_aload_n (pc := 25) dX7_become_25 rfl (by first | rfl | exact isRefV_rf _) ?_
  refine r_getf (pc := 26) dX7_become_26 fX7_18 (by first | assumption | exact isI.gx (by assumption) | exact isI.gc (by assumption) | exact isW.gx (by assumption) | exact isW.gF (by assumption) | exact isW.gT (by assumption) (by omega) | exact isW.gS (by assumption) (by omega) | exact isW.gK (by assumption) (by omega) | exact isW.g1 (by assumption) | exact isW.g2 (by assumption) | exact isW.g3 (by assumption) | exact isI.gx (isW.i0 (by assumption)) | exact isI.gc (isW.i0 (by assumption)) | exact isI.gx (isW.i1 (by assumption)) | exact isI.gc (isW.i1 (by assumption)) | exact isI.gx (isW.i2 (by assumption)) | exact isI.gc (isW.i2 (by assumption)) | exact isI.gx (isW.i3 (by assumption)) | exact isI.gc (isW.i3 (by assumption)) | exact isI.gx (isW.i4 (by assumption)) | exact isI.gc (isW.i4 (by assumption)) | exact isI.gx (isW.i5 (by assumption)) | exact isI.gc (isW.i5 (by assumption)) | exact isR.gx (by assumption) | exact isRd.gx (by assumption) | exact isSp.gx (by assumption) | exact isI.gx (isR.i (by assumption)) | exact isI.gx (isRd.i (by assumption)) | exact isI.gc (isRd.i (by assumption)) | exact isI.gx (isSp.i (by assumption)) | exact isW.gx (isR.w (by assumption)) | exact isW.gF (isR.w (by assumption)) | fail "no such object") (by rfl) ?_
  refine rc_putK2 (pc := 29) dX7_become_29 fX7_18 (by assumption) (by omega) (fun h_29 hW_29 hS_29 => ?_)
  have hV_29 := hV_21.kept hS_29 (fun b hb hb2 => by unfold wBlk at hb hb2; omega)
  refine r_aload_n (pc := 32) dX7_become_32 rfl (by first | rfl | exact isRefV_rf _) ?_
  refine r_aload_n (pc := 33) dX7_become_33 rfl (by first | rfl | exact isRefV_rf _) ?_
  refine r_getf (pc := 34) dX7_become_34 fX7_22 (by first | assumption | exact isI.gx (by assumption) | exact isI.gc (by assumption) | exact isW.gx (by assumption) | exact isW.gF (by assumption) | exact isW.gT (by assumption) (by omega) | exact isW.gS (by assumption) (by omega) | exact isW.gK (by assumption) (by omega) | exact isW.g1 (by assumption) | exact isW.g2 (by assumption) | exact isW.g3 (by assumption) | exact isI.gx (isW.i0 (by assumption)) | exact isI.gc (isW.i0 (by assumption)) | exact isI.gx (isW.i1 (by assumption)) | exact isI.gc (isW.i1 (by assumption)) | exact isI.gx (isW.i2 (by assumption)) | exact isI.gc (isW.i2 (by assumption)) | exact isI.gx (isW.i3 (by assumption)) | exact isI.gc (isW.i3 (by assumption)) | exact isI.gx (isW.i4 (by assumption)) | exact isI.gc (isW.i4 (by assumption)) | exact isI.gx (isW.i5 (by assumption)) | exact isI.gc (isW.i5 (by assumption)) | exact isR.gx (by assumption) | exact isRd.gx (by assumption) | exact isSp.gx (by assumption) | exact isI.gx (isR.i (by assumption)) | exact isI.gx (isRd.i (by assumption)) | exact isI.gc (isRd.i (by assumption)) | exact isI.gx (isSp.i (by assumption)) | exact isW.gx (isR.w (by assumption)) | exact isW.gF (isR.w (by assumption)) | fail "no such object") (by rfl) ?_
  refine rc_putK3 (pc := 37) dX7_become_37 fX7_22 (by assumption) (by omega) (fun h_37 hW_37 hS_37 => ?_)
  have hV_37 := hV_29.kept hS_37 (fun b hb hb2 => by unfold wBlk at hb hb2; omega)
  refine r_aload_n (pc := 40) dX7_become_40 rfl (by first | rfl | exact isRefV_rf _) ?_
  refine r_aload_n (pc := 41) dX7_become_41 rfl (by first | rfl | exact isRefV_rf _) ?_
  refine r_getf (pc := 42) dX7_become_42 fX7_28 (by first | assumption | exact isI.gx (by assumption) | exact isI.gc (by assumption) | exact isW.gx (by assumption) | exact isW.gF (by assumption) | exact isW.gT (by assumption) (by omega) | exact isW.gS (by assumption) (by omega) | exact isW.gK (by assumption) (by omega) | exact isW.g1 (by assumption) | exact isW.g2 (by assumption) | exact isW.g3 (by assumption) | exact isI.gx (isW.i0 (by assumption)) | exact isI.gc (isW.i0 (by assumption)) | exact isI.gx (isW.i1 (by assumption)) | exact isI.gc (isW.i1 (by assumption)) | exact isI.gx (isW.i2 (by assumption)) | exact isI.gc (isW.i2 (by assumption)) | exact isI.gx (isW.i3 (by assumption)) | exact isI.gc (isW.i3 (by assumption)) | exact isI.gx (isW.i4 (by assumption)) | exact isI.gc (isW.i4 (by assumption)) | exact isI.gx (isW.i5 (by assumption)) | exact isI.gc (isW.i5 (by assumption)) | exact isR.gx (by assumption) | exact isRd.gx (by assumption) | exact isSp.gx (by assumption) | exact isI.gx (isR.i (by assumption)) | exact isI.gx (isRd.i (by assumption)) | exact isI.gc (isRd.i (by assumption)) | exact isI.gx (isSp.i (by assumption)) | exact isW.gx (isR.w (by assumption)) | exact isW.gF (isR.w (by assumption)) | fail "no such object") (by rfl) ?_
  refine rc_putK5 (pc := 45) dX7_become_45 fX7_28 (by assumption) (by omega) (fun h_45 hW_45 hS_45 => ?_)
  have hV_45 := hV_37.kept hS_45 (fun b hb hb2 => by unfold wBlk at hb hb2; omega)
  refine r_aload_n (pc := 48) dX7_become_48 rfl (by first | rfl | exact isRefV_rf _) ?_
  refine r_aload_n (pc := 49) dX7_become_49 rfl (by first | rfl | exact isRefV_rf _) ?_
  refine r_getf (pc := 50) dX7_become_50 fX7_31 (by first | assumption | exact isI.gx (by assumption) | exact isI.gc (by assumption) | exact isW.gx (by assumption) | exact isW.gF (by assumption) | exact isW.gT (by assumption) (by omega) | exact isW.gS (by assumption) (by omega) | exact isW.gK (by assumption) (by omega) | exact isW.g1 (by assumption) | exact isW.g2 (by assumption) | exact isW.g3 (by assumption) | exact isI.gx (isW.i0 (by assumption)) | exact isI.gc (isW.i0 (by assumption)) | exact isI.gx (isW.i1 (by assumption)) | exact isI.gc (isW.i1 (by assumption)) | exact isI.gx (isW.i2 (by assumption)) | exact isI.gc (isW.i2 (by assumption)) | exact isI.gx (isW.i3 (by assumption)) | exact isI.gc (isW.i3 (by assumption)) | exact isI.gx (isW.i4 (by assumption)) | exact isI.gc (isW.i4 (by assumption)) | exact isI.gx (isW.i5 (by assumption)) | exact isI.gc (isW.i5 (by assumption)) | exact isR.gx (by assumption) | exact isRd.gx (by assumption) | exact isSp.gx (by assumption) | exact isI.gx (isR.i (by assumption)) | exact isI.gx (isRd.i (by assumption)) | exact isI.gc (isRd.i (by assumption)) | exact isI.gx (isSp.i (by assumption)) | exact isW.gx (isR.w (by assumption)) | exact isW.gF (isR.w (by assumption)) | fail "no such object") (by rfl) ?_
  refine rc_putK6 (pc := 53) dX7_become_53 fX7_31 (by assumption) (by omega) (fun h_53 hW_53 hS_53 => ?_)
  have hV_53 := hV_45.kept hS_53 (fun b hb hb2 => by unfold wBlk at hb hb2; omega)
  refine r_aload_n (pc := 56) dX7_become_56 rfl (by first | rfl | exact isRefV_rf _) ?_
  refine r_aload_n (pc := 57) dX7_become_57 rfl (by first | rfl | exact isRefV_rf _) ?_
  refine r_getf (pc := 58) dX7_become_58 fX7_37 (by first | assumption | exact isI.gx (by assumption) | exact isI.gc (by assumption) | exact isW.gx (by assumption) | exact isW.gF (by assumption) | exact isW.gT (by assumption) (by omega) | exact isW.gS (by assumption) (by omega) | exact isW.gK (by assumption) (by omega) | exact isW.g1 (by assumption) | exact isW.g2 (by assumption) | exact isW.g3 (by assumption) | exact isI.gx (isW.i0 (by assumption)) | exact isI.gc (isW.i0 (by assumption)) | exact isI.gx (isW.i1 (by assumption)) | exact isI.gc (isW.i1 (by assumption)) | exact isI.gx (isW.i2 (by assumption)) | exact isI.gc (isW.i2 (by assumption)) | exact isI.gx (isW.i3 (by assumption)) | exact isI.gc (isW.i3 (by assumption)) | exact isI.gx (isW.i4 (by assumption)) | exact isI.gc (isW.i4 (by assumption)) | exact isI.gx (isW.i5 (by assumption)) | exact isI.gc (isW.i5 (by assumption)) | exact isR.gx (by assumption) | exact isRd.gx (by assumption) | exact isSp.gx (by assumption) | exact isI.gx (isR.i (by assumption)) | exact isI.gx (isRd.i (by assumption)) | exact isI.gc (isRd.i (by assumption)) | exact isI.gx (isSp.i (by assumption)) | exact isW.gx (isR.w (by assumption)) | exact isW.gF (isR.w (by assumption)) | fail "no such object") (by rfl) ?_
  refine rc_putK8 (pc := 61) dX7_become_61 fX7_37 (by assumption) (by omega) (fun h_61 hW_61 hS_61 => ?_)
  have hV_61 := hV_53.kept hS_61 (fun b hb hb2 => by unfold wBlk at hb hb2; omega)
  refine r_aload_n (pc := 64) dX7_become_64 rfl (by first | rfl | exact isRefV_rf _) ?_
  refine r_aload_n (pc := 65) dX7_become_65 rfl (by first | rfl | exact isRefV_rf _) ?_
  refine r_getf (pc := 66) dX7_become_66 fX7_40 (by first | assumption | exact isI.gx (by assumption) | exact isI.gc (by assumption) | exact isW.gx (by assumption) | exact isW.gF (by assumption) | exact isW.gT (by assumption) (by omega) | exact isW.gS (by assumption) (by omega) | exact isW.gK (by assumption) (by omega) | exact isW.g1 (by assumption) | exact isW.g2 (by assumption) | exact isW.g3 (by assumption) | exact isI.gx (isW.i0 (by assumption)) | exact isI.gc (isW.i0 (by assumption)) | exact isI.gx (isW.i1 (by assumption)) | exact isI.gc (isW.i1 (by assumption)) | exact isI.gx (isW.i2 (by assumption)) | exact isI.gc (isW.i2 (by assumption)) | exact isI.gx (isW.i3 (by assumption)) | exact isI.gc (isW.i3 (by assumption)) | exact isI.gx (isW.i4 (by assumption)) | exact isI.gc (isW.i4 (by assumption)) | exact isI.gx (isW.i5 (by assumption)) | exact isI.gc (isW.i5 (by assumption)) | exact isR.gx (by assumption) | exact isRd.gx (by assumption) | exact isSp.gx (by assumption) | exact isI.gx (isR.i (by assumption)) | exact isI.gx (isRd.i (by assumption)) | exact isI.gc (isRd.i (by assumption)) | exact isI.gx (isSp.i (by assumption)) | exact isW.gx (isR.w (by assumption)) | exact isW.gF (isR.w (by assumption)) | fail "no such object") (by rfl) ?_
  refine rc_putK9 (pc := 69) dX7_become_69 fX7_40 (by assumption) (by omega) (fun h_69 hW_69 hS_69 => ?_)
  have hV_69 := hV_61.kept hS_69 (fun b hb hb2 => by unfold wBlk at hb hb2; omega)
  refine r_aload_n (pc := 72) dX7_become_72 rfl (by first | rfl | exact isRefV_rf _) ?_
  refine r_aload_n (pc := 73) dX7_become_73 rfl (by first | rfl | exact isRefV_rf _) ?_
  refine r_getf (pc := 74) dX7_become_74 fX7_43 (by first | assumption | exact isI.gx (by assumption) | exact isI.gc (by assumption) | exact isW.gx (by assumption) | exact isW.gF (by assumption) | exact isW.gT (by assumption) (by omega) | exact isW.gS (by assumption) (by omega) | exact isW.gK (by assumption) (by omega) | exact isW.g1 (by assumption) | exact isW.g2 (by assumption) | exact isW.g3 (by assumption) | exact isI.gx (isW.i0 (by assumption)) | exact isI.gc (isW.i0 (by assumption)) | exact isI.gx (isW.i1 (by assumption)) | exact isI.gc (isW.i1 (by assumption)) | exact isI.gx (isW.i2 (by assumption)) | exact isI.gc (isW.i2 (by assumption)) | exact isI.gx (isW.i3 (by assumption)) | exact isI.gc (isW.i3 (by assumption)) | exact isI.gx (isW.i4 (by assumption)) | exact isI.gc (isW.i4 (by assumption)) | exact isI.gx (isW.i5 (by assumption)) | exact isI.gc (isW.i5 (by assumption)) | exact isR.gx (by assumption) | exact isRd.gx (by assumption) | exact isSp.gx (by assumption) | exact isI.gx (isR.i (by assumption)) | exact isI.gx (isRd.i (by assumption)) | exact isI.gc (isRd.i (by assumption)) | exact isI.gx (isSp.i (by assumption)) | exact isW.gx (isR.w (by assumption)) | exact isW.gF (isR.w (by assumption)) | fail "no such object") (by rfl) ?_
  refine rc_putK10 (pc := 77) dX7_become_77 fX7_43 (by assumption) (by omega) (by first | exact nar_J0 | exact nar_J1 | exact nar_b01 | assumption) (by first | exact fit_J0 | exact fit_J1 | assumption) (fun h_77 hW_77 hS_77 => ?_)
  refine r_return (pc := 80) dX7_become_80 rfl ?_
  exact ⟨rfl, hW_77, (((((((hS_13.trans hS_21).trans hS_29).trans hS_37).trans hS_45).trans hS_53).trans hS_61).trans hS_69).trans hS_77⟩
end mg_94
section mg_95
/-! ===== the class: a world becomes another, whole ===== -/
theorem mixR_o {c c2 : Nat → Int} {lo hi q : Nat} (h : ¬ (lo ≤ q ∧ q < hi)) : mixR c c2 lo hi q = c q := by unfold mixR; rw [if_neg h]
theorem mixR_r {c c2 : Nat → Int} (hc : ∀ q, InR (c q)) (hc2 : ∀ q, InR (c2 q)) {lo hi : Nat} (q : Nat) : InR (mixR c c2 lo hi q) := by
  unfold mixR; split
  · exact hc2 q
  · exact hc q
set_option maxHeartbeats 4000000 in
set_option maxRecDepth 100000 in
theorem L_beT {G : mG} {l : Launch} (d : Nat) {w : Nat} {c : Nat → Int} {C : Nat → Nat → Int} {nm : Nat → Int64} {g : Nat → Option Nat} {w2 : Nat} {c2 : Nat → Int} {C2 : Nat → Nat → Int} {nm2 : Nat → Int64} {g2 : Nat → Option Nat} (hdis : w + 177 ≤ w2 ∨ w2 + 177 ≤ w) (hc : ∀ q, InR (c q)) (hc2 : ∀ q, InR (c2 q)) {N : Nat} (hN : c 0 = (N : Int)) (hcap : N ≤ 90) {Q : Option Value → mH → Prop} : ∀ (k t : Nat) (h : mH), isW h w (mixR c c2 32 (32 + 3 * t)) C (mixL nm nm2 t) (mixE g g2 t) → isW h w2 c2 C2 nm2 g2 → t + k = N → (∀ h', isW h' w (mixR c c2 32 (32 + 3 * N)) C (mixL nm nm2 N) (mixE g g2 N) → isW h' w2 c2 C2 nm2 g2 → Same (wBlk w) h h' → RUN G l (d + 2) mX9_become 57 [some (.ref w), some (.ref w2), some (.int (J (N : Int)))] [] h' Q) → RUN G l (d + 2) mX9_become 10 [some (.ref w), some (.ref w2), some (.int (J (t : Int)))] [] h Q := by
  intro k
  induction k with
  | zero =>
    intro t h hW hW2 ht K
    have e0 : mixR c c2 32 (32 + 3 * t) 0 = (N : Int) := (mixR_o (by omega)).trans hN
    refine r_iload_n (pc := 10) dX9_become_10 rfl ?_
    refine r_aload_n (pc := 11) dX9_become_11 rfl (by first | rfl | exact isRefV_rf _) ?_
    refine r_getf (pc := 12) dX9_become_12 fX9_71 (by first | assumption | exact isI.gx (by assumption) | exact isI.gc (by assumption) | exact isW.gx (by assumption) | exact isW.gF (by assumption) | exact isW.gT (by assumption) (by omega) | exact isW.gS (by assumption) (by omega) | exact isW.gK (by assumption) (by omega) | exact isW.g1 (by assumption) | exact isW.g2 (by assumption) | exact isW.g3 (by assumption) | exact isI.gx (isW.i0 (by assumption)) | exact isI.gc (isW.i0 (by assumption)) | exact isI.gx (isW.i1 (by assumption)) | exact isI.gc (isW.i1 (by assumption)) | exact isI.gx (isW.i2 (by assumption)) | exact isI.gc (isW.i2 (by assumption)) | exact isI.gx (isW.i3 (by assumption)) | exact isI.gc (isW.i3 (by assumption)) | exact isI.gx (isW.i4 (by assumption)) | exact isI.gc (isW.i4 (by assumption)) | exact isI.gx (isW.i5 (by assumption)) | exact isI.gc (isW.i5 (by assumption)) | exact isR.gx (by assumption) | exact isRd.gx (by assumption) | exact isSp.gx (by assumption) | exact isI.gx (isR.i (by assumption)) | exact isI.gx (isRd.i (by assumption)) | exact isI.gc (isRd.i (by assumption)) | exact isI.gx (isSp.i (by assumption)) | exact isW.gx (isR.w (by assumption)) | exact isW.gF (isR.w (by assumption)) | fail "no such object") (by rfl) ?_
    rw [e0]
    refine rj_icmp_ge (pc := 15) (tgt := 57) dX9_become_15 (by decide) (by first | exact b01_r | exact bz_r | omega | (constructor <;> omega) | apply_assumption | (apply atF_r; assumption) | fail "no range") (by first | exact b01_r | exact bz_r | omega | (constructor <;> omega) | apply_assumption | (apply atF_r; assumption) | fail "no range") (fun c_15 => ?_) (fun c_15 => ?_)
    · obtain rfl : t = N := by omega
      exact K h hW hW2 Same.refl
    · exfalso; omega
  | succ k ih =>
    intro t h hW hW2 ht K
    have e0 : mixR c c2 32 (32 + 3 * t) 0 = (N : Int) := (mixR_o (by omega)).trans hN
    refine r_iload_n (pc := 10) dX9_become_10 rfl ?_
    refine r_aload_n (pc := 11) dX9_become_11 rfl (by first | rfl | exact isRefV_rf _) ?_
    refine r_getf (pc := 12) dX9_become_12 fX9_71 (by first | assumption | exact isI.gx (by assumption) | exact isI.gc (by assumption) | exact isW.gx (by assumption) | exact isW.gF (by assumption) | exact isW.gT (by assumption) (by omega) | exact isW.gS (by assumption) (by omega) | exact isW.gK (by assumption) (by omega) | exact isW.g1 (by assumption) | exact isW.g2 (by assumption) | exact isW.g3 (by assumption) | exact isI.gx (isW.i0 (by assumption)) | exact isI.gc (isW.i0 (by assumption)) | exact isI.gx (isW.i1 (by assumption)) | exact isI.gc (isW.i1 (by assumption)) | exact isI.gx (isW.i2 (by assumption)) | exact isI.gc (isW.i2 (by assumption)) | exact isI.gx (isW.i3 (by assumption)) | exact isI.gc (isW.i3 (by assumption)) | exact isI.gx (isW.i4 (by assumption)) | exact isI.gc (isW.i4 (by assumption)) | exact isI.gx (isW.i5 (by assumption)) | exact isI.gc (isW.i5 (by assumption)) | exact isR.gx (by assumption) | exact isRd.gx (by assumption) | exact isSp.gx (by assumption) | exact isI.gx (isR.i (by assumption)) | exact isI.gx (isRd.i (by assumption)) | exact isI.gc (isRd.i (by assumption)) | exact isI.gx (isSp.i (by assumption)) | exact isW.gx (isR.w (by assumption)) | exact isW.gF (isR.w (by assumption)) | fail "no such object") (by rfl) ?_
    rw [e0]
    refine rj_icmp_ge (pc := 15) (tgt := 57) dX9_become_15 (by decide) (by first | exact b01_r | exact bz_r | omega | (constructor <;> omega) | apply_assumption | (apply atF_r; assumption) | fail "no range") (by first | exact b01_r | exact bz_r | omega | (constructor <;> omega) | apply_assumption | (apply atF_r; assumption) | fail "no range") (fun c_15 => ?_) (fun c_15 => ?_)
    · exfalso; omega
    · refine r_iload_n (pc := 18) dX9_become_18 rfl ?_
      refine r_aload_n (pc := 19) dX9_become_19 rfl (by first | rfl | exact isRefV_rf _) ?_
      refine r_getf (pc := 20) dX9_become_20 fX9_11 (by first | assumption | exact isI.gx (by assumption) | exact isI.gc (by assumption) | exact isW.gx (by assumption) | exact isW.gF (by assumption) | exact isW.gT (by assumption) (by omega) | exact isW.gS (by assumption) (by omega) | exact isW.gK (by assumption) (by omega) | exact isW.g1 (by assumption) | exact isW.g2 (by assumption) | exact isW.g3 (by assumption) | exact isI.gx (isW.i0 (by assumption)) | exact isI.gc (isW.i0 (by assumption)) | exact isI.gx (isW.i1 (by assumption)) | exact isI.gc (isW.i1 (by assumption)) | exact isI.gx (isW.i2 (by assumption)) | exact isI.gc (isW.i2 (by assumption)) | exact isI.gx (isW.i3 (by assumption)) | exact isI.gc (isW.i3 (by assumption)) | exact isI.gx (isW.i4 (by assumption)) | exact isI.gc (isW.i4 (by assumption)) | exact isI.gx (isW.i5 (by assumption)) | exact isI.gc (isW.i5 (by assumption)) | exact isR.gx (by assumption) | exact isRd.gx (by assumption) | exact isSp.gx (by assumption) | exact isI.gx (isR.i (by assumption)) | exact isI.gx (isRd.i (by assumption)) | exact isI.gc (isRd.i (by assumption)) | exact isI.gx (isSp.i (by assumption)) | exact isW.gx (isR.w (by assumption)) | exact isW.gF (isR.w (by assumption)) | fail "no such object") (by rfl) ?_
      first | refine rj_alen (pc := 23) dX9_become_23 (by first | assumption | exact isI.gx (by assumption) | exact isI.gc (by assumption) | exact isW.gx (by assumption) | exact isW.gF (by assumption) | exact isW.gT (by assumption) (by omega) | exact isW.gS (by assumption) (by omega) | exact isW.gK (by assumption) (by omega) | exact isW.g1 (by assumption) | exact isW.g2 (by assumption) | exact isW.g3 (by assumption) | exact isI.gx (isW.i0 (by assumption)) | exact isI.gc (isW.i0 (by assumption)) | exact isI.gx (isW.i1 (by assumption)) | exact isI.gc (isW.i1 (by assumption)) | exact isI.gx (isW.i2 (by assumption)) | exact isI.gc (isW.i2 (by assumption)) | exact isI.gx (isW.i3 (by assumption)) | exact isI.gc (isW.i3 (by assumption)) | exact isI.gx (isW.i4 (by assumption)) | exact isI.gc (isW.i4 (by assumption)) | exact isI.gx (isW.i5 (by assumption)) | exact isI.gc (isW.i5 (by assumption)) | exact isR.gx (by assumption) | exact isRd.gx (by assumption) | exact isSp.gx (by assumption) | exact isI.gx (isR.i (by assumption)) | exact isI.gx (isRd.i (by assumption)) | exact isI.gc (isRd.i (by assumption)) | exact isI.gx (isSp.i (by assumption)) | exact isW.gx (isR.w (by assumption)) | exact isW.gF (isR.w (by assumption)) | fail "no such object") ?_ | refine rj_alenR (pc := 23) dX9_become_23 (by first | assumption | exact isI.gx (by assumption) | exact isI.gc (by assumption) | exact isW.gx (by assumption) | exact isW.gF (by assumption) | exact isW.gT (by assumption) (by omega) | exact isW.gS (by assumption) (by omega) | exact isW.gK (by assumption) (by omega) | exact isW.g1 (by assumption) | exact isW.g2 (by assumption) | exact isW.g3 (by assumption) | exact isI.gx (isW.i0 (by assumption)) | exact isI.gc (isW.i0 (by assumption)) | exact isI.gx (isW.i1 (by assumption)) | exact isI.gc (isW.i1 (by assumption)) | exact isI.gx (isW.i2 (by assumption)) | exact isI.gc (isW.i2 (by assumption)) | exact isI.gx (isW.i3 (by assumption)) | exact isI.gc (isW.i3 (by assumption)) | exact isI.gx (isW.i4 (by assumption)) | exact isI.gc (isW.i4 (by assumption)) | exact isI.gx (isW.i5 (by assumption)) | exact isI.gc (isW.i5 (by assumption)) | exact isR.gx (by assumption) | exact isRd.gx (by assumption) | exact isSp.gx (by assumption) | exact isI.gx (isR.i (by assumption)) | exact isI.gx (isRd.i (by assumption)) | exact isI.gc (isRd.i (by assumption)) | exact isI.gx (isSp.i (by assumption)) | exact isW.gx (isR.w (by assumption)) | exact isW.gF (isR.w (by assumption)) | fail "no such object") ?_
      refine rj_icmp_ge (pc := 24) (tgt := 57) dX9_become_24 (by decide) (by first | exact b01_r | exact bz_r | omega | (constructor <;> omega) | apply_assumption | (apply atF_r; assumption) | fail "no range") (by first | exact b01_r | exact bz_r | omega | (constructor <;> omega) | apply_assumption | (apply atF_r; assumption) | fail "no range") (fun c_24 => ?_) (fun c_24 => ?_)
      · exfalso; omega
      · refine r_iload_n (pc := 27) dX9_become_27 rfl ?_
        refine r_aload_n (pc := 28) dX9_become_28 rfl (by first | rfl | exact isRefV_rf _) ?_
        refine r_getf (pc := 29) dX9_become_29 fX9_11 (by first | assumption | exact isI.gx (by assumption) | exact isI.gc (by assumption) | exact isW.gx (by assumption) | exact isW.gF (by assumption) | exact isW.gT (by assumption) (by omega) | exact isW.gS (by assumption) (by omega) | exact isW.gK (by assumption) (by omega) | exact isW.g1 (by assumption) | exact isW.g2 (by assumption) | exact isW.g3 (by assumption) | exact isI.gx (isW.i0 (by assumption)) | exact isI.gc (isW.i0 (by assumption)) | exact isI.gx (isW.i1 (by assumption)) | exact isI.gc (isW.i1 (by assumption)) | exact isI.gx (isW.i2 (by assumption)) | exact isI.gc (isW.i2 (by assumption)) | exact isI.gx (isW.i3 (by assumption)) | exact isI.gc (isW.i3 (by assumption)) | exact isI.gx (isW.i4 (by assumption)) | exact isI.gc (isW.i4 (by assumption)) | exact isI.gx (isW.i5 (by assumption)) | exact isI.gc (isW.i5 (by assumption)) | exact isR.gx (by assumption) | exact isRd.gx (by assumption) | exact isSp.gx (by assumption) | exact isI.gx (isR.i (by assumption)) | exact isI.gx (isRd.i (by assumption)) | exact isI.gc (isRd.i (by assumption)) | exact isI.gx (isSp.i (by assumption)) | exact isW.gx (isR.w (by assumption)) | exact isW.gF (isR.w (by assumption)) | fail "no such object") (by rfl) ?_
        first | refine rj_alen (pc := 32) dX9_become_32 (by first | assumption | exact isI.gx (by assumption) | exact isI.gc (by assumption) | exact isW.gx (by assumption) | exact isW.gF (by assumption) | exact isW.gT (by assumption) (by omega) | exact isW.gS (by assumption) (by omega) | exact isW.gK (by assumption) (by omega) | exact isW.g1 (by assumption) | exact isW.g2 (by assumption) | exact isW.g3 (by assumption) | exact isI.gx (isW.i0 (by assumption)) | exact isI.gc (isW.i0 (by assumption)) | exact isI.gx (isW.i1 (by assumption)) | exact isI.gc (isW.i1 (by assumption)) | exact isI.gx (isW.i2 (by assumption)) | exact isI.gc (isW.i2 (by assumption)) | exact isI.gx (isW.i3 (by assumption)) | exact isI.gc (isW.i3 (by assumption)) | exact isI.gx (isW.i4 (by assumption)) | exact isI.gc (isW.i4 (by assumption)) | exact isI.gx (isW.i5 (by assumption)) | exact isI.gc (isW.i5 (by assumption)) | exact isR.gx (by assumption) | exact isRd.gx (by assumption) | exact isSp.gx (by assumption) | exact isI.gx (isR.i (by assumption)) | exact isI.gx (isRd.i (by assumption)) | exact isI.gc (isRd.i (by assumption)) | exact isI.gx (isSp.i (by assumption)) | exact isW.gx (isR.w (by assumption)) | exact isW.gF (isR.w (by assumption)) | fail "no such object") ?_ | refine rj_alenR (pc := 32) dX9_become_32 (by first | assumption | exact isI.gx (by assumption) | exact isI.gc (by assumption) | exact isW.gx (by assumption) | exact isW.gF (by assumption) | exact isW.gT (by assumption) (by omega) | exact isW.gS (by assumption) (by omega) | exact isW.gK (by assumption) (by omega) | exact isW.g1 (by assumption) | exact isW.g2 (by assumption) | exact isW.g3 (by assumption) | exact isI.gx (isW.i0 (by assumption)) | exact isI.gc (isW.i0 (by assumption)) | exact isI.gx (isW.i1 (by assumption)) | exact isI.gc (isW.i1 (by assumption)) | exact isI.gx (isW.i2 (by assumption)) | exact isI.gc (isW.i2 (by assumption)) | exact isI.gx (isW.i3 (by assumption)) | exact isI.gc (isW.i3 (by assumption)) | exact isI.gx (isW.i4 (by assumption)) | exact isI.gc (isW.i4 (by assumption)) | exact isI.gx (isW.i5 (by assumption)) | exact isI.gc (isW.i5 (by assumption)) | exact isR.gx (by assumption) | exact isRd.gx (by assumption) | exact isSp.gx (by assumption) | exact isI.gx (isR.i (by assumption)) | exact isI.gx (isRd.i (by assumption)) | exact isI.gc (isRd.i (by assumption)) | exact isI.gx (isSp.i (by assumption)) | exact isW.gx (isR.w (by assumption)) | exact isW.gF (isR.w (by assumption)) | fail "no such object") ?_
        refine rj_icmp_ge (pc := 33) (tgt := 57) dX9_become_33 (by decide) (by first | exact b01_r | exact bz_r | omega | (constructor <;> omega) | apply_assumption | (apply atF_r; assumption) | fail "no range") (by first | exact b01_r | exact bz_r | omega | (constructor <;> omega) | apply_assumption | (apply atF_r; assumption) | fail "no range") (fun c_33 => ?_) (fun c_33 => ?_)
        · exfalso; omega
        · refine r_aload_n (pc := 36) dX9_become_36 rfl (by first | rfl | exact isRefV_rf _) ?_
          refine r_getf (pc := 37) dX9_become_37 fX9_11 (by first | assumption | exact isI.gx (by assumption) | exact isI.gc (by assumption) | exact isW.gx (by assumption) | exact isW.gF (by assumption) | exact isW.gT (by assumption) (by omega) | exact isW.gS (by assumption) (by omega) | exact isW.gK (by assumption) (by omega) | exact isW.g1 (by assumption) | exact isW.g2 (by assumption) | exact isW.g3 (by assumption) | exact isI.gx (isW.i0 (by assumption)) | exact isI.gc (isW.i0 (by assumption)) | exact isI.gx (isW.i1 (by assumption)) | exact isI.gc (isW.i1 (by assumption)) | exact isI.gx (isW.i2 (by assumption)) | exact isI.gc (isW.i2 (by assumption)) | exact isI.gx (isW.i3 (by assumption)) | exact isI.gc (isW.i3 (by assumption)) | exact isI.gx (isW.i4 (by assumption)) | exact isI.gc (isW.i4 (by assumption)) | exact isI.gx (isW.i5 (by assumption)) | exact isI.gc (isW.i5 (by assumption)) | exact isR.gx (by assumption) | exact isRd.gx (by assumption) | exact isSp.gx (by assumption) | exact isI.gx (isR.i (by assumption)) | exact isI.gx (isRd.i (by assumption)) | exact isI.gc (isRd.i (by assumption)) | exact isI.gx (isSp.i (by assumption)) | exact isW.gx (isR.w (by assumption)) | exact isW.gF (isR.w (by assumption)) | fail "no such object") (by rfl) ?_
          refine r_iload_n (pc := 40) dX9_become_40 rfl ?_
          first | refine rc_aaldT (pc := 41) dX9_become_41 (by assumption) (by first | exact b01_r | exact bz_r | omega | (constructor <;> omega) | apply_assumption | (apply atF_r; assumption) | fail "no range") (by first | exact b01_r | exact bz_r | omega | (constructor <;> omega) | apply_assumption | (apply atF_r; assumption) | fail "no range") (by first | exact b01_r | exact bz_r | omega | (constructor <;> omega) | apply_assumption | (apply atF_r; assumption) | fail "no range") ?_ | refine rc_aaldS (pc := 41) dX9_become_41 (by assumption) (by first | exact b01_r | exact bz_r | omega | (constructor <;> omega) | apply_assumption | (apply atF_r; assumption) | fail "no range") (by first | exact b01_r | exact bz_r | omega | (constructor <;> omega) | apply_assumption | (apply atF_r; assumption) | fail "no range") (by first | exact b01_r | exact bz_r | omega | (constructor <;> omega) | apply_assumption | (apply atF_r; assumption) | fail "no range") ?_ | refine rc_aaldK (pc := 41) dX9_become_41 (by assumption) (by first | exact b01_r | exact bz_r | omega | (constructor <;> omega) | apply_assumption | (apply atF_r; assumption) | fail "no range") (by first | exact b01_r | exact bz_r | omega | (constructor <;> omega) | apply_assumption | (apply atF_r; assumption) | fail "no range") (by first | exact b01_r | exact bz_r | omega | (constructor <;> omega) | apply_assumption | (apply atF_r; assumption) | fail "no range") ?_
          refine r_aload_n (pc := 42) dX9_become_42 rfl (by first | rfl | exact isRefV_rf _) ?_
          refine r_getf (pc := 43) dX9_become_43 fX9_11 (by first | assumption | exact isI.gx (by assumption) | exact isI.gc (by assumption) | exact isW.gx (by assumption) | exact isW.gF (by assumption) | exact isW.gT (by assumption) (by omega) | exact isW.gS (by assumption) (by omega) | exact isW.gK (by assumption) (by omega) | exact isW.g1 (by assumption) | exact isW.g2 (by assumption) | exact isW.g3 (by assumption) | exact isI.gx (isW.i0 (by assumption)) | exact isI.gc (isW.i0 (by assumption)) | exact isI.gx (isW.i1 (by assumption)) | exact isI.gc (isW.i1 (by assumption)) | exact isI.gx (isW.i2 (by assumption)) | exact isI.gc (isW.i2 (by assumption)) | exact isI.gx (isW.i3 (by assumption)) | exact isI.gc (isW.i3 (by assumption)) | exact isI.gx (isW.i4 (by assumption)) | exact isI.gc (isW.i4 (by assumption)) | exact isI.gx (isW.i5 (by assumption)) | exact isI.gc (isW.i5 (by assumption)) | exact isR.gx (by assumption) | exact isRd.gx (by assumption) | exact isSp.gx (by assumption) | exact isI.gx (isR.i (by assumption)) | exact isI.gx (isRd.i (by assumption)) | exact isI.gc (isRd.i (by assumption)) | exact isI.gx (isSp.i (by assumption)) | exact isW.gx (isR.w (by assumption)) | exact isW.gF (isR.w (by assumption)) | fail "no such object") (by rfl) ?_
          refine r_iload_n (pc := 46) dX9_become_46 rfl ?_
          first | refine rc_aaldT (pc := 47) dX9_become_47 (by assumption) (by first | exact b01_r | exact bz_r | omega | (constructor <;> omega) | apply_assumption | (apply atF_r; assumption) | fail "no range") (by first | exact b01_r | exact bz_r | omega | (constructor <;> omega) | apply_assumption | (apply atF_r; assumption) | fail "no range") (by first | exact b01_r | exact bz_r | omega | (constructor <;> omega) | apply_assumption | (apply atF_r; assumption) | fail "no range") ?_ | refine rc_aaldS (pc := 47) dX9_become_47 (by assumption) (by first | exact b01_r | exact bz_r | omega | (constructor <;> omega) | apply_assumption | (apply atF_r; assumption) | fail "no range") (by first | exact b01_r | exact bz_r | omega | (constructor <;> omega) | apply_assumption | (apply atF_r; assumption) | fail "no range") (by first | exact b01_r | exact bz_r | omega | (constructor <;> omega) | apply_assumption | (apply atF_r; assumption) | fail "no range") ?_ | refine rc_aaldK (pc := 47) dX9_become_47 (by assumption) (by first | exact b01_r | exact bz_r | omega | (constructor <;> omega) | apply_assumption | (apply atF_r; assumption) | fail "no range") (by first | exact b01_r | exact bz_r | omega | (constructor <;> omega) | apply_assumption | (apply atF_r; assumption) | fail "no range") (by first | exact b01_r | exact bz_r | omega | (constructor <;> omega) | apply_assumption | (apply atF_r; assumption) | fail "no range") ?_
          rw [Int.toNat_natCast]
          refine r_callV1 (pc := 48) dX9_become_48 qX8_become kX9_74 vX8_become (by first | assumption | exact isI.gx (by assumption) | exact isI.gc (by assumption) | exact isW.gx (by assumption) | exact isW.gF (by assumption) | exact isW.gT (by assumption) (by omega) | exact isW.gS (by assumption) (by omega) | exact isW.gK (by assumption) (by omega) | exact isW.g1 (by assumption) | exact isW.g2 (by assumption) | exact isW.g3 (by assumption) | exact isI.gx (isW.i0 (by assumption)) | exact isI.gc (isW.i0 (by assumption)) | exact isI.gx (isW.i1 (by assumption)) | exact isI.gc (isW.i1 (by assumption)) | exact isI.gx (isW.i2 (by assumption)) | exact isI.gc (isW.i2 (by assumption)) | exact isI.gx (isW.i3 (by assumption)) | exact isI.gc (isW.i3 (by assumption)) | exact isI.gx (isW.i4 (by assumption)) | exact isI.gc (isW.i4 (by assumption)) | exact isI.gx (isW.i5 (by assumption)) | exact isI.gc (isW.i5 (by assumption)) | exact isR.gx (by assumption) | exact isRd.gx (by assumption) | exact isSp.gx (by assumption) | exact isI.gx (isR.i (by assumption)) | exact isI.gx (isRd.i (by assumption)) | exact isI.gc (isRd.i (by assumption)) | exact isI.gx (isSp.i (by assumption)) | exact isW.gx (isR.w (by assumption)) | exact isW.gF (isR.w (by assumption)) | fail "no such object") rfl rfl (Nat.le_of_ble_eq_true rfl) (cb_Thing _ hW hW2 hdis (q := t) (by omega)) (fun v_48 h_48 q_48 => ?_)
          obtain ⟨rfl, hW_48, S_48⟩ := q_48
          have hV_48 := hW2.kept S_48 (fun b hb hb2 => by unfold wBlk at hb hb2; omega)
          rw [thC_m, mixL_s, mixE_s] at hW_48
          refine rj_iinc (pc := 51) dX9_become_51 (Nat.le_of_ble_eq_true rfl) rfl ?_
          dsimp only [lsSt, List.set, mLs, mEnt]
          refine r_goto (pc := 54) (tgt := 10) dX9_become_54 (by decide) ?_
          have y := ih (t + 1) _ hW_48 hV_48 (by omega) (fun h' a b s => K h' a b (S_48.trans s))
          rw [show ((t + 1 : Nat) : Int) = (t : Int) + 1 by omega] at y
          exact y
set_option maxHeartbeats 4000000 in
set_option maxRecDepth 100000 in
theorem L_beS {G : mG} {l : Launch} (d : Nat) {w : Nat} {c : Nat → Int} {C : Nat → Nat → Int} {nm : Nat → Int64} {g : Nat → Option Nat} {w2 : Nat} {c2 : Nat → Int} {C2 : Nat → Nat → Int} {nm2 : Nat → Int64} {g2 : Nat → Option Nat} (hdis : w + 177 ≤ w2 ∨ w2 + 177 ≤ w) (hc : ∀ q, InR (c q)) (hc2 : ∀ q, InR (c2 q)) {N : Nat} (hN : c 1 = (N : Int)) (hcap : N ≤ 60) {Q : Option Value → mH → Prop} : ∀ (k t : Nat) (h : mH), isW h w (mixR c c2 304 (304 + 3 * t)) C nm g → isW h w2 c2 C2 nm2 g2 → t + k = N → (∀ h', isW h' w (mixR c c2 304 (304 + 3 * N)) C nm g → isW h' w2 c2 C2 nm2 g2 → Same (wBlk w) h h' → RUN G l (d + 2) mX9_become 114 [some (.ref w), some (.ref w2), some (.int (J (N : Int)))] [] h' Q) → RUN G l (d + 2) mX9_become 67 [some (.ref w), some (.ref w2), some (.int (J (t : Int)))] [] h Q := by
  intro k
  induction k with
  | zero =>
    intro t h hW hW2 ht K
    have e0 : mixR c c2 304 (304 + 3 * t) 1 = (N : Int) := (mixR_o (by omega)).trans hN
    refine r_iload_n (pc := 67) dX9_become_67 rfl ?_
    refine r_aload_n (pc := 68) dX9_become_68 rfl (by first | rfl | exact isRefV_rf _) ?_
    refine r_getf (pc := 69) dX9_become_69 fX9_57 (by first | assumption | exact isI.gx (by assumption) | exact isI.gc (by assumption) | exact isW.gx (by assumption) | exact isW.gF (by assumption) | exact isW.gT (by assumption) (by omega) | exact isW.gS (by assumption) (by omega) | exact isW.gK (by assumption) (by omega) | exact isW.g1 (by assumption) | exact isW.g2 (by assumption) | exact isW.g3 (by assumption) | exact isI.gx (isW.i0 (by assumption)) | exact isI.gc (isW.i0 (by assumption)) | exact isI.gx (isW.i1 (by assumption)) | exact isI.gc (isW.i1 (by assumption)) | exact isI.gx (isW.i2 (by assumption)) | exact isI.gc (isW.i2 (by assumption)) | exact isI.gx (isW.i3 (by assumption)) | exact isI.gc (isW.i3 (by assumption)) | exact isI.gx (isW.i4 (by assumption)) | exact isI.gc (isW.i4 (by assumption)) | exact isI.gx (isW.i5 (by assumption)) | exact isI.gc (isW.i5 (by assumption)) | exact isR.gx (by assumption) | exact isRd.gx (by assumption) | exact isSp.gx (by assumption) | exact isI.gx (isR.i (by assumption)) | exact isI.gx (isRd.i (by assumption)) | exact isI.gc (isRd.i (by assumption)) | exact isI.gx (isSp.i (by assumption)) | exact isW.gx (isR.w (by assumption)) | exact isW.gF (isR.w (by assumption)) | fail "no such object") (by rfl) ?_
    rw [e0]
    refine rj_icmp_ge (pc := 72) (tgt := 114) dX9_become_72 (by decide) (by first | exact b01_r | exact bz_r | omega | (constructor <;> omega) | apply_assumption | (apply atF_r; assumption) | fail "no range") (by first | exact b01_r | exact bz_r | omega | (constructor <;> omega) | apply_assumption | (apply atF_r; assumption) | fail "no range") (fun c_72 => ?_) (fun c_72 => ?_)
    · obtain rfl : t = N := by omega
      exact K h hW hW2 Same.refl
    · exfalso; omega
  | succ k ih =>
    intro t h hW hW2 ht K
    have e0 : mixR c c2 304 (304 + 3 * t) 1 = (N : Int) := (mixR_o (by omega)).trans hN
    refine r_iload_n (pc := 67) dX9_become_67 rfl ?_
    refine r_aload_n (pc := 68) dX9_become_68 rfl (by first | rfl | exact isRefV_rf _) ?_
    refine r_getf (pc := 69) dX9_become_69 fX9_57 (by first | assumption | exact isI.gx (by assumption) | exact isI.gc (by assumption) | exact isW.gx (by assumption) | exact isW.gF (by assumption) | exact isW.gT (by assumption) (by omega) | exact isW.gS (by assumption) (by omega) | exact isW.gK (by assumption) (by omega) | exact isW.g1 (by assumption) | exact isW.g2 (by assumption) | exact isW.g3 (by assumption) | exact isI.gx (isW.i0 (by assumption)) | exact isI.gc (isW.i0 (by assumption)) | exact isI.gx (isW.i1 (by assumption)) | exact isI.gc (isW.i1 (by assumption)) | exact isI.gx (isW.i2 (by assumption)) | exact isI.gc (isW.i2 (by assumption)) | exact isI.gx (isW.i3 (by assumption)) | exact isI.gc (isW.i3 (by assumption)) | exact isI.gx (isW.i4 (by assumption)) | exact isI.gc (isW.i4 (by assumption)) | exact isI.gx (isW.i5 (by assumption)) | exact isI.gc (isW.i5 (by assumption)) | exact isR.gx (by assumption) | exact isRd.gx (by assumption) | exact isSp.gx (by assumption) | exact isI.gx (isR.i (by assumption)) | exact isI.gx (isRd.i (by assumption)) | exact isI.gc (isRd.i (by assumption)) | exact isI.gx (isSp.i (by assumption)) | exact isW.gx (isR.w (by assumption)) | exact isW.gF (isR.w (by assumption)) | fail "no such object") (by rfl) ?_
    rw [e0]
    refine rj_icmp_ge (pc := 72) (tgt := 114) dX9_become_72 (by decide) (by first | exact b01_r | exact bz_r | omega | (constructor <;> omega) | apply_assumption | (apply atF_r; assumption) | fail "no range") (by first | exact b01_r | exact bz_r | omega | (constructor <;> omega) | apply_assumption | (apply atF_r; assumption) | fail "no range") (fun c_72 => ?_) (fun c_72 => ?_)
    · exfalso; omega
    · refine r_iload_n (pc := 75) dX9_become_75 rfl ?_
      refine r_aload_n (pc := 76) dX9_become_76 rfl (by first | rfl | exact isRefV_rf _) ?_
      refine r_getf (pc := 77) dX9_become_77 fX9_19 (by first | assumption | exact isI.gx (by assumption) | exact isI.gc (by assumption) | exact isW.gx (by assumption) | exact isW.gF (by assumption) | exact isW.gT (by assumption) (by omega) | exact isW.gS (by assumption) (by omega) | exact isW.gK (by assumption) (by omega) | exact isW.g1 (by assumption) | exact isW.g2 (by assumption) | exact isW.g3 (by assumption) | exact isI.gx (isW.i0 (by assumption)) | exact isI.gc (isW.i0 (by assumption)) | exact isI.gx (isW.i1 (by assumption)) | exact isI.gc (isW.i1 (by assumption)) | exact isI.gx (isW.i2 (by assumption)) | exact isI.gc (isW.i2 (by assumption)) | exact isI.gx (isW.i3 (by assumption)) | exact isI.gc (isW.i3 (by assumption)) | exact isI.gx (isW.i4 (by assumption)) | exact isI.gc (isW.i4 (by assumption)) | exact isI.gx (isW.i5 (by assumption)) | exact isI.gc (isW.i5 (by assumption)) | exact isR.gx (by assumption) | exact isRd.gx (by assumption) | exact isSp.gx (by assumption) | exact isI.gx (isR.i (by assumption)) | exact isI.gx (isRd.i (by assumption)) | exact isI.gc (isRd.i (by assumption)) | exact isI.gx (isSp.i (by assumption)) | exact isW.gx (isR.w (by assumption)) | exact isW.gF (isR.w (by assumption)) | fail "no such object") (by rfl) ?_
      first | refine rj_alen (pc := 80) dX9_become_80 (by first | assumption | exact isI.gx (by assumption) | exact isI.gc (by assumption) | exact isW.gx (by assumption) | exact isW.gF (by assumption) | exact isW.gT (by assumption) (by omega) | exact isW.gS (by assumption) (by omega) | exact isW.gK (by assumption) (by omega) | exact isW.g1 (by assumption) | exact isW.g2 (by assumption) | exact isW.g3 (by assumption) | exact isI.gx (isW.i0 (by assumption)) | exact isI.gc (isW.i0 (by assumption)) | exact isI.gx (isW.i1 (by assumption)) | exact isI.gc (isW.i1 (by assumption)) | exact isI.gx (isW.i2 (by assumption)) | exact isI.gc (isW.i2 (by assumption)) | exact isI.gx (isW.i3 (by assumption)) | exact isI.gc (isW.i3 (by assumption)) | exact isI.gx (isW.i4 (by assumption)) | exact isI.gc (isW.i4 (by assumption)) | exact isI.gx (isW.i5 (by assumption)) | exact isI.gc (isW.i5 (by assumption)) | exact isR.gx (by assumption) | exact isRd.gx (by assumption) | exact isSp.gx (by assumption) | exact isI.gx (isR.i (by assumption)) | exact isI.gx (isRd.i (by assumption)) | exact isI.gc (isRd.i (by assumption)) | exact isI.gx (isSp.i (by assumption)) | exact isW.gx (isR.w (by assumption)) | exact isW.gF (isR.w (by assumption)) | fail "no such object") ?_ | refine rj_alenR (pc := 80) dX9_become_80 (by first | assumption | exact isI.gx (by assumption) | exact isI.gc (by assumption) | exact isW.gx (by assumption) | exact isW.gF (by assumption) | exact isW.gT (by assumption) (by omega) | exact isW.gS (by assumption) (by omega) | exact isW.gK (by assumption) (by omega) | exact isW.g1 (by assumption) | exact isW.g2 (by assumption) | exact isW.g3 (by assumption) | exact isI.gx (isW.i0 (by assumption)) | exact isI.gc (isW.i0 (by assumption)) | exact isI.gx (isW.i1 (by assumption)) | exact isI.gc (isW.i1 (by assumption)) | exact isI.gx (isW.i2 (by assumption)) | exact isI.gc (isW.i2 (by assumption)) | exact isI.gx (isW.i3 (by assumption)) | exact isI.gc (isW.i3 (by assumption)) | exact isI.gx (isW.i4 (by assumption)) | exact isI.gc (isW.i4 (by assumption)) | exact isI.gx (isW.i5 (by assumption)) | exact isI.gc (isW.i5 (by assumption)) | exact isR.gx (by assumption) | exact isRd.gx (by assumption) | exact isSp.gx (by assumption) | exact isI.gx (isR.i (by assumption)) | exact isI.gx (isRd.i (by assumption)) | exact isI.gc (isRd.i (by assumption)) | exact isI.gx (isSp.i (by assumption)) | exact isW.gx (isR.w (by assumption)) | exact isW.gF (isR.w (by assumption)) | fail "no such object") ?_
      refine rj_icmp_ge (pc := 81) (tgt := 114) dX9_become_81 (by decide) (by first | exact b01_r | exact bz_r | omega | (constructor <;> omega) | apply_assumption | (apply atF_r; assumption) | fail "no range") (by first | exact b01_r | exact bz_r | omega | (constructor <;> omega) | apply_assumption | (apply atF_r; assumption) | fail "no range") (fun c_81 => ?_) (fun c_81 => ?_)
      · exfalso; omega
      · refine r_iload_n (pc := 84) dX9_become_84 rfl ?_
        refine r_aload_n (pc := 85) dX9_become_85 rfl (by first | rfl | exact isRefV_rf _) ?_
        refine r_getf (pc := 86) dX9_become_86 fX9_19 (by first | assumption | exact isI.gx (by assumption) | exact isI.gc (by assumption) | exact isW.gx (by assumption) | exact isW.gF (by assumption) | exact isW.gT (by assumption) (by omega) | exact isW.gS (by assumption) (by omega) | exact isW.gK (by assumption) (by omega) | exact isW.g1 (by assumption) | exact isW.g2 (by assumption) | exact isW.g3 (by assumption) | exact isI.gx (isW.i0 (by assumption)) | exact isI.gc (isW.i0 (by assumption)) | exact isI.gx (isW.i1 (by assumption)) | exact isI.gc (isW.i1 (by assumption)) | exact isI.gx (isW.i2 (by assumption)) | exact isI.gc (isW.i2 (by assumption)) | exact isI.gx (isW.i3 (by assumption)) | exact isI.gc (isW.i3 (by assumption)) | exact isI.gx (isW.i4 (by assumption)) | exact isI.gc (isW.i4 (by assumption)) | exact isI.gx (isW.i5 (by assumption)) | exact isI.gc (isW.i5 (by assumption)) | exact isR.gx (by assumption) | exact isRd.gx (by assumption) | exact isSp.gx (by assumption) | exact isI.gx (isR.i (by assumption)) | exact isI.gx (isRd.i (by assumption)) | exact isI.gc (isRd.i (by assumption)) | exact isI.gx (isSp.i (by assumption)) | exact isW.gx (isR.w (by assumption)) | exact isW.gF (isR.w (by assumption)) | fail "no such object") (by rfl) ?_
        first | refine rj_alen (pc := 89) dX9_become_89 (by first | assumption | exact isI.gx (by assumption) | exact isI.gc (by assumption) | exact isW.gx (by assumption) | exact isW.gF (by assumption) | exact isW.gT (by assumption) (by omega) | exact isW.gS (by assumption) (by omega) | exact isW.gK (by assumption) (by omega) | exact isW.g1 (by assumption) | exact isW.g2 (by assumption) | exact isW.g3 (by assumption) | exact isI.gx (isW.i0 (by assumption)) | exact isI.gc (isW.i0 (by assumption)) | exact isI.gx (isW.i1 (by assumption)) | exact isI.gc (isW.i1 (by assumption)) | exact isI.gx (isW.i2 (by assumption)) | exact isI.gc (isW.i2 (by assumption)) | exact isI.gx (isW.i3 (by assumption)) | exact isI.gc (isW.i3 (by assumption)) | exact isI.gx (isW.i4 (by assumption)) | exact isI.gc (isW.i4 (by assumption)) | exact isI.gx (isW.i5 (by assumption)) | exact isI.gc (isW.i5 (by assumption)) | exact isR.gx (by assumption) | exact isRd.gx (by assumption) | exact isSp.gx (by assumption) | exact isI.gx (isR.i (by assumption)) | exact isI.gx (isRd.i (by assumption)) | exact isI.gc (isRd.i (by assumption)) | exact isI.gx (isSp.i (by assumption)) | exact isW.gx (isR.w (by assumption)) | exact isW.gF (isR.w (by assumption)) | fail "no such object") ?_ | refine rj_alenR (pc := 89) dX9_become_89 (by first | assumption | exact isI.gx (by assumption) | exact isI.gc (by assumption) | exact isW.gx (by assumption) | exact isW.gF (by assumption) | exact isW.gT (by assumption) (by omega) | exact isW.gS (by assumption) (by omega) | exact isW.gK (by assumption) (by omega) | exact isW.g1 (by assumption) | exact isW.g2 (by assumption) | exact isW.g3 (by assumption) | exact isI.gx (isW.i0 (by assumption)) | exact isI.gc (isW.i0 (by assumption)) | exact isI.gx (isW.i1 (by assumption)) | exact isI.gc (isW.i1 (by assumption)) | exact isI.gx (isW.i2 (by assumption)) | exact isI.gc (isW.i2 (by assumption)) | exact isI.gx (isW.i3 (by assumption)) | exact isI.gc (isW.i3 (by assumption)) | exact isI.gx (isW.i4 (by assumption)) | exact isI.gc (isW.i4 (by assumption)) | exact isI.gx (isW.i5 (by assumption)) | exact isI.gc (isW.i5 (by assumption)) | exact isR.gx (by assumption) | exact isRd.gx (by assumption) | exact isSp.gx (by assumption) | exact isI.gx (isR.i (by assumption)) | exact isI.gx (isRd.i (by assumption)) | exact isI.gc (isRd.i (by assumption)) | exact isI.gx (isSp.i (by assumption)) | exact isW.gx (isR.w (by assumption)) | exact isW.gF (isR.w (by assumption)) | fail "no such object") ?_
        refine rj_icmp_ge (pc := 90) (tgt := 114) dX9_become_90 (by decide) (by first | exact b01_r | exact bz_r | omega | (constructor <;> omega) | apply_assumption | (apply atF_r; assumption) | fail "no range") (by first | exact b01_r | exact bz_r | omega | (constructor <;> omega) | apply_assumption | (apply atF_r; assumption) | fail "no range") (fun c_90 => ?_) (fun c_90 => ?_)
        · exfalso; omega
        · refine r_aload_n (pc := 93) dX9_become_93 rfl (by first | rfl | exact isRefV_rf _) ?_
          refine r_getf (pc := 94) dX9_become_94 fX9_19 (by first | assumption | exact isI.gx (by assumption) | exact isI.gc (by assumption) | exact isW.gx (by assumption) | exact isW.gF (by assumption) | exact isW.gT (by assumption) (by omega) | exact isW.gS (by assumption) (by omega) | exact isW.gK (by assumption) (by omega) | exact isW.g1 (by assumption) | exact isW.g2 (by assumption) | exact isW.g3 (by assumption) | exact isI.gx (isW.i0 (by assumption)) | exact isI.gc (isW.i0 (by assumption)) | exact isI.gx (isW.i1 (by assumption)) | exact isI.gc (isW.i1 (by assumption)) | exact isI.gx (isW.i2 (by assumption)) | exact isI.gc (isW.i2 (by assumption)) | exact isI.gx (isW.i3 (by assumption)) | exact isI.gc (isW.i3 (by assumption)) | exact isI.gx (isW.i4 (by assumption)) | exact isI.gc (isW.i4 (by assumption)) | exact isI.gx (isW.i5 (by assumption)) | exact isI.gc (isW.i5 (by assumption)) | exact isR.gx (by assumption) | exact isRd.gx (by assumption) | exact isSp.gx (by assumption) | exact isI.gx (isR.i (by assumption)) | exact isI.gx (isRd.i (by assumption)) | exact isI.gc (isRd.i (by assumption)) | exact isI.gx (isSp.i (by assumption)) | exact isW.gx (isR.w (by assumption)) | exact isW.gF (isR.w (by assumption)) | fail "no such object") (by rfl) ?_
          refine r_iload_n (pc := 97) dX9_become_97 rfl ?_
          first | refine rc_aaldT (pc := 98) dX9_become_98 (by assumption) (by first | exact b01_r | exact bz_r | omega | (constructor <;> omega) | apply_assumption | (apply atF_r; assumption) | fail "no range") (by first | exact b01_r | exact bz_r | omega | (constructor <;> omega) | apply_assumption | (apply atF_r; assumption) | fail "no range") (by first | exact b01_r | exact bz_r | omega | (constructor <;> omega) | apply_assumption | (apply atF_r; assumption) | fail "no range") ?_ | refine rc_aaldS (pc := 98) dX9_become_98 (by assumption) (by first | exact b01_r | exact bz_r | omega | (constructor <;> omega) | apply_assumption | (apply atF_r; assumption) | fail "no range") (by first | exact b01_r | exact bz_r | omega | (constructor <;> omega) | apply_assumption | (apply atF_r; assumption) | fail "no range") (by first | exact b01_r | exact bz_r | omega | (constructor <;> omega) | apply_assumption | (apply atF_r; assumption) | fail "no range") ?_ | refine rc_aaldK (pc := 98) dX9_become_98 (by assumption) (by first | exact b01_r | exact bz_r | omega | (constructor <;> omega) | apply_assumption | (apply atF_r; assumption) | fail "no range") (by first | exact b01_r | exact bz_r | omega | (constructor <;> omega) | apply_assumption | (apply atF_r; assumption) | fail "no range") (by first | exact b01_r | exact bz_r | omega | (constructor <;> omega) | apply_assumption | (apply atF_r; assumption) | fail "no range") ?_
          refine r_aload_n (pc := 99) dX9_become_99 rfl (by first | rfl | exact isRefV_rf _) ?_
          refine r_getf (pc := 100) dX9_become_100 fX9_19 (by first | assumption | exact isI.gx (by assumption) | exact isI.gc (by assumption) | exact isW.gx (by assumption) | exact isW.gF (by assumption) | exact isW.gT (by assumption) (by omega) | exact isW.gS (by assumption) (by omega) | exact isW.gK (by assumption) (by omega) | exact isW.g1 (by assumption) | exact isW.g2 (by assumption) | exact isW.g3 (by assumption) | exact isI.gx (isW.i0 (by assumption)) | exact isI.gc (isW.i0 (by assumption)) | exact isI.gx (isW.i1 (by assumption)) | exact isI.gc (isW.i1 (by assumption)) | exact isI.gx (isW.i2 (by assumption)) | exact isI.gc (isW.i2 (by assumption)) | exact isI.gx (isW.i3 (by assumption)) | exact isI.gc (isW.i3 (by assumption)) | exact isI.gx (isW.i4 (by assumption)) | exact isI.gc (isW.i4 (by assumption)) | exact isI.gx (isW.i5 (by assumption)) | exact isI.gc (isW.i5 (by assumption)) | exact isR.gx (by assumption) | exact isRd.gx (by assumption) | exact isSp.gx (by assumption) | exact isI.gx (isR.i (by assumption)) | exact isI.gx (isRd.i (by assumption)) | exact isI.gc (isRd.i (by assumption)) | exact isI.gx (isSp.i (by assumption)) | exact isW.gx (isR.w (by assumption)) | exact isW.gF (isR.w (by assumption)) | fail "no such object") (by rfl) ?_
          refine r_iload_n (pc := 103) dX9_become_103 rfl ?_
          first | refine rc_aaldT (pc := 104) dX9_become_104 (by assumption) (by first | exact b01_r | exact bz_r | omega | (constructor <;> omega) | apply_assumption | (apply atF_r; assumption) | fail "no range") (by first | exact b01_r | exact bz_r | omega | (constructor <;> omega) | apply_assumption | (apply atF_r; assumption) | fail "no range") (by first | exact b01_r | exact bz_r | omega | (constructor <;> omega) | apply_assumption | (apply atF_r; assumption) | fail "no range") ?_ | refine rc_aaldS (pc := 104) dX9_become_104 (by assumption) (by first | exact b01_r | exact bz_r | omega | (constructor <;> omega) | apply_assumption | (apply atF_r; assumption) | fail "no range") (by first | exact b01_r | exact bz_r | omega | (constructor <;> omega) | apply_assumption | (apply atF_r; assumption) | fail "no range") (by first | exact b01_r | exact bz_r | omega | (constructor <;> omega) | apply_assumption | (apply atF_r; assumption) | fail "no range") ?_ | refine rc_aaldK (pc := 104) dX9_become_104 (by assumption) (by first | exact b01_r | exact bz_r | omega | (constructor <;> omega) | apply_assumption | (apply atF_r; assumption) | fail "no range") (by first | exact b01_r | exact bz_r | omega | (constructor <;> omega) | apply_assumption | (apply atF_r; assumption) | fail "no range") (by first | exact b01_r | exact bz_r | omega | (constructor <;> omega) | apply_assumption | (apply atF_r; assumption) | fail "no range") ?_
          rw [Int.toNat_natCast]
          refine r_callV1 (pc := 105) dX9_become_105 qX4_become kX9_78 vX4_become (by first | assumption | exact isI.gx (by assumption) | exact isI.gc (by assumption) | exact isW.gx (by assumption) | exact isW.gF (by assumption) | exact isW.gT (by assumption) (by omega) | exact isW.gS (by assumption) (by omega) | exact isW.gK (by assumption) (by omega) | exact isW.g1 (by assumption) | exact isW.g2 (by assumption) | exact isW.g3 (by assumption) | exact isI.gx (isW.i0 (by assumption)) | exact isI.gc (isW.i0 (by assumption)) | exact isI.gx (isW.i1 (by assumption)) | exact isI.gc (isW.i1 (by assumption)) | exact isI.gx (isW.i2 (by assumption)) | exact isI.gc (isW.i2 (by assumption)) | exact isI.gx (isW.i3 (by assumption)) | exact isI.gc (isW.i3 (by assumption)) | exact isI.gx (isW.i4 (by assumption)) | exact isI.gc (isW.i4 (by assumption)) | exact isI.gx (isW.i5 (by assumption)) | exact isI.gc (isW.i5 (by assumption)) | exact isR.gx (by assumption) | exact isRd.gx (by assumption) | exact isSp.gx (by assumption) | exact isI.gx (isR.i (by assumption)) | exact isI.gx (isRd.i (by assumption)) | exact isI.gc (isRd.i (by assumption)) | exact isI.gx (isSp.i (by assumption)) | exact isW.gx (isR.w (by assumption)) | exact isW.gF (isR.w (by assumption)) | fail "no such object") rfl rfl (Nat.le_of_ble_eq_true rfl) (cb_Scope _ hW hW2 hdis (q := t) (by omega)) (fun v_105 h_105 q_105 => ?_)
          obtain ⟨rfl, hW_105, S_105⟩ := q_105
          have hV_105 := hW2.kept S_105 (fun b hb hb2 => by unfold wBlk at hb hb2; omega)
          rw [scC_m] at hW_105
          refine rj_iinc (pc := 108) dX9_become_108 (Nat.le_of_ble_eq_true rfl) rfl ?_
          dsimp only [lsSt, List.set, mLs, mEnt]
          refine r_goto (pc := 111) (tgt := 67) dX9_become_111 (by decide) ?_
          have y := ih (t + 1) _ hW_105 hV_105 (by omega) (fun h' a b s => K h' a b (S_105.trans s))
          rw [show ((t + 1 : Nat) : Int) = (t : Int) + 1 by omega] at y
          exact y
set_option maxHeartbeats 4000000 in
set_option maxRecDepth 100000 in
theorem L_beK {G : mG} {l : Launch} (d : Nat) {w : Nat} {c : Nat → Int} {C : Nat → Nat → Int} {nm : Nat → Int64} {g : Nat → Option Nat} {w2 : Nat} {c2 : Nat → Int} {C2 : Nat → Nat → Int} {nm2 : Nat → Int64} {g2 : Nat → Option Nat} (hdis : w + 177 ≤ w2 ∨ w2 + 177 ≤ w) (hc : ∀ q, InR (c q)) (hc2 : ∀ q, InR (c2 q)) {N : Nat} (hN : c 2 = (N : Int)) (hcap : N ≤ 10) (hb : ∀ q, q < N → c2 (496 + 9 * q) = 0 ∨ c2 (496 + 9 * q) = 1) {Q : Option Value → mH → Prop} : ∀ (k t : Nat) (h : mH), isW h w (mixR c c2 488 (488 + 9 * t)) C nm (mixO g g2 180 (180 + 2 * t)) → isW h w2 c2 C2 nm2 g2 → t + k = N → (∀ h', isW h' w (mixR c c2 488 (488 + 9 * N)) C nm (mixO g g2 180 (180 + 2 * N)) → isW h' w2 c2 C2 nm2 g2 → Same (wBlk w) h h' → RUN G l (d + 2) mX9_become 171 [some (.ref w), some (.ref w2), some (.int (J (N : Int)))] [] h' Q) → RUN G l (d + 2) mX9_become 124 [some (.ref w), some (.ref w2), some (.int (J (t : Int)))] [] h Q := by
  intro k
  induction k with
  | zero =>
    intro t h hW hW2 ht K
    have e0 : mixR c c2 488 (488 + 9 * t) 2 = (N : Int) := (mixR_o (by omega)).trans hN
    refine r_iload_n (pc := 124) dX9_become_124 rfl ?_
    refine r_aload_n (pc := 125) dX9_become_125 rfl (by first | rfl | exact isRefV_rf _) ?_
    refine r_getf (pc := 126) dX9_become_126 fX9_81 (by first | assumption | exact isI.gx (by assumption) | exact isI.gc (by assumption) | exact isW.gx (by assumption) | exact isW.gF (by assumption) | exact isW.gT (by assumption) (by omega) | exact isW.gS (by assumption) (by omega) | exact isW.gK (by assumption) (by omega) | exact isW.g1 (by assumption) | exact isW.g2 (by assumption) | exact isW.g3 (by assumption) | exact isI.gx (isW.i0 (by assumption)) | exact isI.gc (isW.i0 (by assumption)) | exact isI.gx (isW.i1 (by assumption)) | exact isI.gc (isW.i1 (by assumption)) | exact isI.gx (isW.i2 (by assumption)) | exact isI.gc (isW.i2 (by assumption)) | exact isI.gx (isW.i3 (by assumption)) | exact isI.gc (isW.i3 (by assumption)) | exact isI.gx (isW.i4 (by assumption)) | exact isI.gc (isW.i4 (by assumption)) | exact isI.gx (isW.i5 (by assumption)) | exact isI.gc (isW.i5 (by assumption)) | exact isR.gx (by assumption) | exact isRd.gx (by assumption) | exact isSp.gx (by assumption) | exact isI.gx (isR.i (by assumption)) | exact isI.gx (isRd.i (by assumption)) | exact isI.gc (isRd.i (by assumption)) | exact isI.gx (isSp.i (by assumption)) | exact isW.gx (isR.w (by assumption)) | exact isW.gF (isR.w (by assumption)) | fail "no such object") (by rfl) ?_
    rw [e0]
    refine rj_icmp_ge (pc := 129) (tgt := 171) dX9_become_129 (by decide) (by first | exact b01_r | exact bz_r | omega | (constructor <;> omega) | apply_assumption | (apply atF_r; assumption) | fail "no range") (by first | exact b01_r | exact bz_r | omega | (constructor <;> omega) | apply_assumption | (apply atF_r; assumption) | fail "no range") (fun c_129 => ?_) (fun c_129 => ?_)
    · obtain rfl : t = N := by omega
      exact K h hW hW2 Same.refl
    · exfalso; omega
  | succ k ih =>
    intro t h hW hW2 ht K
    have e0 : mixR c c2 488 (488 + 9 * t) 2 = (N : Int) := (mixR_o (by omega)).trans hN
    refine r_iload_n (pc := 124) dX9_become_124 rfl ?_
    refine r_aload_n (pc := 125) dX9_become_125 rfl (by first | rfl | exact isRefV_rf _) ?_
    refine r_getf (pc := 126) dX9_become_126 fX9_81 (by first | assumption | exact isI.gx (by assumption) | exact isI.gc (by assumption) | exact isW.gx (by assumption) | exact isW.gF (by assumption) | exact isW.gT (by assumption) (by omega) | exact isW.gS (by assumption) (by omega) | exact isW.gK (by assumption) (by omega) | exact isW.g1 (by assumption) | exact isW.g2 (by assumption) | exact isW.g3 (by assumption) | exact isI.gx (isW.i0 (by assumption)) | exact isI.gc (isW.i0 (by assumption)) | exact isI.gx (isW.i1 (by assumption)) | exact isI.gc (isW.i1 (by assumption)) | exact isI.gx (isW.i2 (by assumption)) | exact isI.gc (isW.i2 (by assumption)) | exact isI.gx (isW.i3 (by assumption)) | exact isI.gc (isW.i3 (by assumption)) | exact isI.gx (isW.i4 (by assumption)) | exact isI.gc (isW.i4 (by assumption)) | exact isI.gx (isW.i5 (by assumption)) | exact isI.gc (isW.i5 (by assumption)) | exact isR.gx (by assumption) | exact isRd.gx (by assumption) | exact isSp.gx (by assumption) | exact isI.gx (isR.i (by assumption)) | exact isI.gx (isRd.i (by assumption)) | exact isI.gc (isRd.i (by assumption)) | exact isI.gx (isSp.i (by assumption)) | exact isW.gx (isR.w (by assumption)) | exact isW.gF (isR.w (by assumption)) | fail "no such object") (by rfl) ?_
    rw [e0]
    refine rj_icmp_ge (pc := 129) (tgt := 171) dX9_become_129 (by decide) (by first | exact b01_r | exact bz_r | omega | (constructor <;> omega) | apply_assumption | (apply atF_r; assumption) | fail "no range") (by first | exact b01_r | exact bz_r | omega | (constructor <;> omega) | apply_assumption | (apply atF_r; assumption) | fail "no range") (fun c_129 => ?_) (fun c_129 => ?_)
    · exfalso; omega
    · refine r_iload_n (pc := 132) dX9_become_132 rfl ?_
      refine r_aload_n (pc := 133) dX9_become_133 rfl (by first | rfl | exact isRefV_rf _) ?_
      refine r_getf (pc := 134) dX9_become_134 fX9_25 (by first | assumption | exact isI.gx (by assumption) | exact isI.gc (by assumption) | exact isW.gx (by assumption) | exact isW.gF (by assumption) | exact isW.gT (by assumption) (by omega) | exact isW.gS (by assumption) (by omega) | exact isW.gK (by assumption) (by omega) | exact isW.g1 (by assumption) | exact isW.g2 (by assumption) | exact isW.g3 (by assumption) | exact isI.gx (isW.i0 (by assumption)) | exact isI.gc (isW.i0 (by assumption)) | exact isI.gx (isW.i1 (by assumption)) | exact isI.gc (isW.i1 (by assumption)) | exact isI.gx (isW.i2 (by assumption)) | exact isI.gc (isW.i2 (by assumption)) | exact isI.gx (isW.i3 (by assumption)) | exact isI.gc (isW.i3 (by assumption)) | exact isI.gx (isW.i4 (by assumption)) | exact isI.gc (isW.i4 (by assumption)) | exact isI.gx (isW.i5 (by assumption)) | exact isI.gc (isW.i5 (by assumption)) | exact isR.gx (by assumption) | exact isRd.gx (by assumption) | exact isSp.gx (by assumption) | exact isI.gx (isR.i (by assumption)) | exact isI.gx (isRd.i (by assumption)) | exact isI.gc (isRd.i (by assumption)) | exact isI.gx (isSp.i (by assumption)) | exact isW.gx (isR.w (by assumption)) | exact isW.gF (isR.w (by assumption)) | fail "no such object") (by rfl) ?_
      first | refine rj_alen (pc := 137) dX9_become_137 (by first | assumption | exact isI.gx (by assumption) | exact isI.gc (by assumption) | exact isW.gx (by assumption) | exact isW.gF (by assumption) | exact isW.gT (by assumption) (by omega) | exact isW.gS (by assumption) (by omega) | exact isW.gK (by assumption) (by omega) | exact isW.g1 (by assumption) | exact isW.g2 (by assumption) | exact isW.g3 (by assumption) | exact isI.gx (isW.i0 (by assumption)) | exact isI.gc (isW.i0 (by assumption)) | exact isI.gx (isW.i1 (by assumption)) | exact isI.gc (isW.i1 (by assumption)) | exact isI.gx (isW.i2 (by assumption)) | exact isI.gc (isW.i2 (by assumption)) | exact isI.gx (isW.i3 (by assumption)) | exact isI.gc (isW.i3 (by assumption)) | exact isI.gx (isW.i4 (by assumption)) | exact isI.gc (isW.i4 (by assumption)) | exact isI.gx (isW.i5 (by assumption)) | exact isI.gc (isW.i5 (by assumption)) | exact isR.gx (by assumption) | exact isRd.gx (by assumption) | exact isSp.gx (by assumption) | exact isI.gx (isR.i (by assumption)) | exact isI.gx (isRd.i (by assumption)) | exact isI.gc (isRd.i (by assumption)) | exact isI.gx (isSp.i (by assumption)) | exact isW.gx (isR.w (by assumption)) | exact isW.gF (isR.w (by assumption)) | fail "no such object") ?_ | refine rj_alenR (pc := 137) dX9_become_137 (by first | assumption | exact isI.gx (by assumption) | exact isI.gc (by assumption) | exact isW.gx (by assumption) | exact isW.gF (by assumption) | exact isW.gT (by assumption) (by omega) | exact isW.gS (by assumption) (by omega) | exact isW.gK (by assumption) (by omega) | exact isW.g1 (by assumption) | exact isW.g2 (by assumption) | exact isW.g3 (by assumption) | exact isI.gx (isW.i0 (by assumption)) | exact isI.gc (isW.i0 (by assumption)) | exact isI.gx (isW.i1 (by assumption)) | exact isI.gc (isW.i1 (by assumption)) | exact isI.gx (isW.i2 (by assumption)) | exact isI.gc (isW.i2 (by assumption)) | exact isI.gx (isW.i3 (by assumption)) | exact isI.gc (isW.i3 (by assumption)) | exact isI.gx (isW.i4 (by assumption)) | exact isI.gc (isW.i4 (by assumption)) | exact isI.gx (isW.i5 (by assumption)) | exact isI.gc (isW.i5 (by assumption)) | exact isR.gx (by assumption) | exact isRd.gx (by assumption) | exact isSp.gx (by assumption) | exact isI.gx (isR.i (by assumption)) | exact isI.gx (isRd.i (by assumption)) | exact isI.gc (isRd.i (by assumption)) | exact isI.gx (isSp.i (by assumption)) | exact isW.gx (isR.w (by assumption)) | exact isW.gF (isR.w (by assumption)) | fail "no such object") ?_
      refine rj_icmp_ge (pc := 138) (tgt := 171) dX9_become_138 (by decide) (by first | exact b01_r | exact bz_r | omega | (constructor <;> omega) | apply_assumption | (apply atF_r; assumption) | fail "no range") (by first | exact b01_r | exact bz_r | omega | (constructor <;> omega) | apply_assumption | (apply atF_r; assumption) | fail "no range") (fun c_138 => ?_) (fun c_138 => ?_)
      · exfalso; omega
      · refine r_iload_n (pc := 141) dX9_become_141 rfl ?_
        refine r_aload_n (pc := 142) dX9_become_142 rfl (by first | rfl | exact isRefV_rf _) ?_
        refine r_getf (pc := 143) dX9_become_143 fX9_25 (by first | assumption | exact isI.gx (by assumption) | exact isI.gc (by assumption) | exact isW.gx (by assumption) | exact isW.gF (by assumption) | exact isW.gT (by assumption) (by omega) | exact isW.gS (by assumption) (by omega) | exact isW.gK (by assumption) (by omega) | exact isW.g1 (by assumption) | exact isW.g2 (by assumption) | exact isW.g3 (by assumption) | exact isI.gx (isW.i0 (by assumption)) | exact isI.gc (isW.i0 (by assumption)) | exact isI.gx (isW.i1 (by assumption)) | exact isI.gc (isW.i1 (by assumption)) | exact isI.gx (isW.i2 (by assumption)) | exact isI.gc (isW.i2 (by assumption)) | exact isI.gx (isW.i3 (by assumption)) | exact isI.gc (isW.i3 (by assumption)) | exact isI.gx (isW.i4 (by assumption)) | exact isI.gc (isW.i4 (by assumption)) | exact isI.gx (isW.i5 (by assumption)) | exact isI.gc (isW.i5 (by assumption)) | exact isR.gx (by assumption) | exact isRd.gx (by assumption) | exact isSp.gx (by assumption) | exact isI.gx (isR.i (by assumption)) | exact isI.gx (isRd.i (by assumption)) | exact isI.gc (isRd.i (by assumption)) | exact isI.gx (isSp.i (by assumption)) | exact isW.gx (isR.w (by assumption)) | exact isW.gF (isR.w (by assumption)) | fail "no such object") (by rfl) ?_
        first | refine rj_alen (pc := 146) dX9_become_146 (by first | assumption | exact isI.gx (by assumption) | exact isI.gc (by assumption) | exact isW.gx (by assumption) | exact isW.gF (by assumption) | exact isW.gT (by assumption) (by omega) | exact isW.gS (by assumption) (by omega) | exact isW.gK (by assumption) (by omega) | exact isW.g1 (by assumption) | exact isW.g2 (by assumption) | exact isW.g3 (by assumption) | exact isI.gx (isW.i0 (by assumption)) | exact isI.gc (isW.i0 (by assumption)) | exact isI.gx (isW.i1 (by assumption)) | exact isI.gc (isW.i1 (by assumption)) | exact isI.gx (isW.i2 (by assumption)) | exact isI.gc (isW.i2 (by assumption)) | exact isI.gx (isW.i3 (by assumption)) | exact isI.gc (isW.i3 (by assumption)) | exact isI.gx (isW.i4 (by assumption)) | exact isI.gc (isW.i4 (by assumption)) | exact isI.gx (isW.i5 (by assumption)) | exact isI.gc (isW.i5 (by assumption)) | exact isR.gx (by assumption) | exact isRd.gx (by assumption) | exact isSp.gx (by assumption) | exact isI.gx (isR.i (by assumption)) | exact isI.gx (isRd.i (by assumption)) | exact isI.gc (isRd.i (by assumption)) | exact isI.gx (isSp.i (by assumption)) | exact isW.gx (isR.w (by assumption)) | exact isW.gF (isR.w (by assumption)) | fail "no such object") ?_ | refine rj_alenR (pc := 146) dX9_become_146 (by first | assumption | exact isI.gx (by assumption) | exact isI.gc (by assumption) | exact isW.gx (by assumption) | exact isW.gF (by assumption) | exact isW.gT (by assumption) (by omega) | exact isW.gS (by assumption) (by omega) | exact isW.gK (by assumption) (by omega) | exact isW.g1 (by assumption) | exact isW.g2 (by assumption) | exact isW.g3 (by assumption) | exact isI.gx (isW.i0 (by assumption)) | exact isI.gc (isW.i0 (by assumption)) | exact isI.gx (isW.i1 (by assumption)) | exact isI.gc (isW.i1 (by assumption)) | exact isI.gx (isW.i2 (by assumption)) | exact isI.gc (isW.i2 (by assumption)) | exact isI.gx (isW.i3 (by assumption)) | exact isI.gc (isW.i3 (by assumption)) | exact isI.gx (isW.i4 (by assumption)) | exact isI.gc (isW.i4 (by assumption)) | exact isI.gx (isW.i5 (by assumption)) | exact isI.gc (isW.i5 (by assumption)) | exact isR.gx (by assumption) | exact isRd.gx (by assumption) | exact isSp.gx (by assumption) | exact isI.gx (isR.i (by assumption)) | exact isI.gx (isRd.i (by assumption)) | exact isI.gc (isRd.i (by assumption)) | exact isI.gx (isSp.i (by assumption)) | exact isW.gx (isR.w (by assumption)) | exact isW.gF (isR.w (by assumption)) | fail "no such object") ?_
        refine rj_icmp_ge (pc := 147) (tgt := 171) dX9_become_147 (by decide) (by first | exact b01_r | exact bz_r | omega | (constructor <;> omega) | apply_assumption | (apply atF_r; assumption) | fail "no range") (by first | exact b01_r | exact bz_r | omega | (constructor <;> omega) | apply_assumption | (apply atF_r; assumption) | fail "no range") (fun c_147 => ?_) (fun c_147 => ?_)
        · exfalso; omega
        · refine r_aload_n (pc := 150) dX9_become_150 rfl (by first | rfl | exact isRefV_rf _) ?_
          refine r_getf (pc := 151) dX9_become_151 fX9_25 (by first | assumption | exact isI.gx (by assumption) | exact isI.gc (by assumption) | exact isW.gx (by assumption) | exact isW.gF (by assumption) | exact isW.gT (by assumption) (by omega) | exact isW.gS (by assumption) (by omega) | exact isW.gK (by assumption) (by omega) | exact isW.g1 (by assumption) | exact isW.g2 (by assumption) | exact isW.g3 (by assumption) | exact isI.gx (isW.i0 (by assumption)) | exact isI.gc (isW.i0 (by assumption)) | exact isI.gx (isW.i1 (by assumption)) | exact isI.gc (isW.i1 (by assumption)) | exact isI.gx (isW.i2 (by assumption)) | exact isI.gc (isW.i2 (by assumption)) | exact isI.gx (isW.i3 (by assumption)) | exact isI.gc (isW.i3 (by assumption)) | exact isI.gx (isW.i4 (by assumption)) | exact isI.gc (isW.i4 (by assumption)) | exact isI.gx (isW.i5 (by assumption)) | exact isI.gc (isW.i5 (by assumption)) | exact isR.gx (by assumption) | exact isRd.gx (by assumption) | exact isSp.gx (by assumption) | exact isI.gx (isR.i (by assumption)) | exact isI.gx (isRd.i (by assumption)) | exact isI.gc (isRd.i (by assumption)) | exact isI.gx (isSp.i (by assumption)) | exact isW.gx (isR.w (by assumption)) | exact isW.gF (isR.w (by assumption)) | fail "no such object") (by rfl) ?_
          refine r_iload_n (pc := 154) dX9_become_154 rfl ?_
          first | refine rc_aaldT (pc := 155) dX9_become_155 (by assumption) (by first | exact b01_r | exact bz_r | omega | (constructor <;> omega) | apply_assumption | (apply atF_r; assumption) | fail "no range") (by first | exact b01_r | exact bz_r | omega | (constructor <;> omega) | apply_assumption | (apply atF_r; assumption) | fail "no range") (by first | exact b01_r | exact bz_r | omega | (constructor <;> omega) | apply_assumption | (apply atF_r; assumption) | fail "no range") ?_ | refine rc_aaldS (pc := 155) dX9_become_155 (by assumption) (by first | exact b01_r | exact bz_r | omega | (constructor <;> omega) | apply_assumption | (apply atF_r; assumption) | fail "no range") (by first | exact b01_r | exact bz_r | omega | (constructor <;> omega) | apply_assumption | (apply atF_r; assumption) | fail "no range") (by first | exact b01_r | exact bz_r | omega | (constructor <;> omega) | apply_assumption | (apply atF_r; assumption) | fail "no range") ?_ | refine rc_aaldK (pc := 155) dX9_become_155 (by assumption) (by first | exact b01_r | exact bz_r | omega | (constructor <;> omega) | apply_assumption | (apply atF_r; assumption) | fail "no range") (by first | exact b01_r | exact bz_r | omega | (constructor <;> omega) | apply_assumption | (apply atF_r; assumption) | fail "no range") (by first | exact b01_r | exact bz_r | omega | (constructor <;> omega) | apply_assumption | (apply atF_r; assumption) | fail "no range") ?_
          refine r_aload_n (pc := 156) dX9_become_156 rfl (by first | rfl | exact isRefV_rf _) ?_
          refine r_getf (pc := 157) dX9_become_157 fX9_25 (by first | assumption | exact isI.gx (by assumption) | exact isI.gc (by assumption) | exact isW.gx (by assumption) | exact isW.gF (by assumption) | exact isW.gT (by assumption) (by omega) | exact isW.gS (by assumption) (by omega) | exact isW.gK (by assumption) (by omega) | exact isW.g1 (by assumption) | exact isW.g2 (by assumption) | exact isW.g3 (by assumption) | exact isI.gx (isW.i0 (by assumption)) | exact isI.gc (isW.i0 (by assumption)) | exact isI.gx (isW.i1 (by assumption)) | exact isI.gc (isW.i1 (by assumption)) | exact isI.gx (isW.i2 (by assumption)) | exact isI.gc (isW.i2 (by assumption)) | exact isI.gx (isW.i3 (by assumption)) | exact isI.gc (isW.i3 (by assumption)) | exact isI.gx (isW.i4 (by assumption)) | exact isI.gc (isW.i4 (by assumption)) | exact isI.gx (isW.i5 (by assumption)) | exact isI.gc (isW.i5 (by assumption)) | exact isR.gx (by assumption) | exact isRd.gx (by assumption) | exact isSp.gx (by assumption) | exact isI.gx (isR.i (by assumption)) | exact isI.gx (isRd.i (by assumption)) | exact isI.gc (isRd.i (by assumption)) | exact isI.gx (isSp.i (by assumption)) | exact isW.gx (isR.w (by assumption)) | exact isW.gF (isR.w (by assumption)) | fail "no such object") (by rfl) ?_
          refine r_iload_n (pc := 160) dX9_become_160 rfl ?_
          first | refine rc_aaldT (pc := 161) dX9_become_161 (by assumption) (by first | exact b01_r | exact bz_r | omega | (constructor <;> omega) | apply_assumption | (apply atF_r; assumption) | fail "no range") (by first | exact b01_r | exact bz_r | omega | (constructor <;> omega) | apply_assumption | (apply atF_r; assumption) | fail "no range") (by first | exact b01_r | exact bz_r | omega | (constructor <;> omega) | apply_assumption | (apply atF_r; assumption) | fail "no range") ?_ | refine rc_aaldS (pc := 161) dX9_become_161 (by assumption) (by first | exact b01_r | exact bz_r | omega | (constructor <;> omega) | apply_assumption | (apply atF_r; assumption) | fail "no range") (by first | exact b01_r | exact bz_r | omega | (constructor <;> omega) | apply_assumption | (apply atF_r; assumption) | fail "no range") (by first | exact b01_r | exact bz_r | omega | (constructor <;> omega) | apply_assumption | (apply atF_r; assumption) | fail "no range") ?_ | refine rc_aaldK (pc := 161) dX9_become_161 (by assumption) (by first | exact b01_r | exact bz_r | omega | (constructor <;> omega) | apply_assumption | (apply atF_r; assumption) | fail "no range") (by first | exact b01_r | exact bz_r | omega | (constructor <;> omega) | apply_assumption | (apply atF_r; assumption) | fail "no range") (by first | exact b01_r | exact bz_r | omega | (constructor <;> omega) | apply_assumption | (apply atF_r; assumption) | fail "no range") ?_
          rw [Int.toNat_natCast]
          refine r_callV1 (pc := 162) dX9_become_162 qX7_become kX9_84 vX7_become (by first | assumption | exact isI.gx (by assumption) | exact isI.gc (by assumption) | exact isW.gx (by assumption) | exact isW.gF (by assumption) | exact isW.gT (by assumption) (by omega) | exact isW.gS (by assumption) (by omega) | exact isW.gK (by assumption) (by omega) | exact isW.g1 (by assumption) | exact isW.g2 (by assumption) | exact isW.g3 (by assumption) | exact isI.gx (isW.i0 (by assumption)) | exact isI.gc (isW.i0 (by assumption)) | exact isI.gx (isW.i1 (by assumption)) | exact isI.gc (isW.i1 (by assumption)) | exact isI.gx (isW.i2 (by assumption)) | exact isI.gc (isW.i2 (by assumption)) | exact isI.gx (isW.i3 (by assumption)) | exact isI.gc (isW.i3 (by assumption)) | exact isI.gx (isW.i4 (by assumption)) | exact isI.gc (isW.i4 (by assumption)) | exact isI.gx (isW.i5 (by assumption)) | exact isI.gc (isW.i5 (by assumption)) | exact isR.gx (by assumption) | exact isRd.gx (by assumption) | exact isSp.gx (by assumption) | exact isI.gx (isR.i (by assumption)) | exact isI.gx (isRd.i (by assumption)) | exact isI.gc (isRd.i (by assumption)) | exact isI.gx (isSp.i (by assumption)) | exact isW.gx (isR.w (by assumption)) | exact isW.gF (isR.w (by assumption)) | fail "no such object") rfl rfl (Nat.le_of_ble_eq_true rfl) (cb_Task _ hW hW2 hdis (q := t) (by omega) (hb t (by omega))) (fun v_162 h_162 q_162 => ?_)
          obtain ⟨rfl, hW_162, S_162⟩ := q_162
          have hV_162 := hW2.kept S_162 (fun b hb hb2 => by unfold wBlk at hb hb2; omega)
          rw [tbC_m, tbG_m] at hW_162
          refine rj_iinc (pc := 165) dX9_become_165 (Nat.le_of_ble_eq_true rfl) rfl ?_
          dsimp only [lsSt, List.set, mLs, mEnt]
          refine r_goto (pc := 168) (tgt := 124) dX9_become_168 (by decide) ?_
          have y := ih (t + 1) _ hW_162 hV_162 (by omega) (fun h' a b s => K h' a b (S_162.trans s))
          rw [show ((t + 1 : Nat) : Int) = (t : Int) + 1 by omega] at y
          exact y
end mg_95
section mg_96
/-! ===== the class: a world becomes another: its rows ===== -/
/-- all six rows' sizes -/
def szW (c : Nat → Int) (sz : Nat → Nat) : Prop := ∀ j, j < 6 → c (8 + j) = (sz j : Int) ∧ sz j ≤ iRm j
set_option maxHeartbeats 4000000 in
set_option maxRecDepth 100000 in
theorem cb_Ints {G : mG} {l : Launch} (d : Nat) {h : mH} {w : Nat} {c : Nat → Int} {C : Nat → Nat → Int} {nm : Nat → Int64} {g : Nat → Option Nat} (hW : isW h w c C nm g) {w2 : Nat} {c2 : Nat → Int} {C2 : Nat → Nat → Int} {nm2 : Nat → Int64} {g2 : Nat → Option Nat} (hW2 : isW h w2 c2 C2 nm2 g2) (hdis : w + 177 ≤ w2 ∨ w2 + 177 ≤ w) {sz : Nat → Nat} (hsz : szW c2 sz) {j : Nat} (hj : j < 6) : RUNM G l d mX1_become [.ref (wA w (iAd j)), .ref (wA w2 (iAd j))] h (fun v h' => v = none ∧ isW h' w (updI c (8 + j) (c2 (8 + j))) (updC C j (cpyF (sz j) (C2 j) (C j))) nm g ∧ Same (wBlk w) h h') := by
  have y2 := hW2.gI hj
  have z := hsz j hj
  rw [z.1] at y2
  have rm : iRm j ≤ 1000 := by
    have : j = 0 ∨ j = 1 ∨ j = 2 ∨ j = 3 ∨ j = 4 ∨ j = 5 := by omega
    rcases this with e | e | e | e | e | e <;> subst e <;> decide
  have ia : iAd j ≤ 170 := by
    have : j = 0 ∨ j = 1 ∨ j = 2 ∨ j = 3 ∨ j = 4 ∨ j = 5 := by omega
    rcases this with e | e | e | e | e | e <;> subst e <;> decide
  refine (ci_become (G := G) (l := l) d rm rm z.2 z.2 (by unfold wA; omega) (hW.gI hj) y2).mono (fun v h' q => ⟨q.1, ?_, q.2.2.mono (fun b hb => iBlk_wBlk hb)⟩)
  rw [z.1]
  exact hW.ofI hj q.2.2 q.2.1
noncomputable def fbC (c c2 : Nat → Int) : Nat → Int := updI (updI (updI (updI c (8 + 3) (c2 (8 + 3))) (8 + 4) (c2 (8 + 4))) (8 + 5) (c2 (8 + 5))) 4 (c2 4)
def ibD (C C2 : Nat → Nat → Int) (sz : Nat → Nat) (j : Nat) : Nat → Nat → Int := updC C j (cpyF (sz j) (C2 j) (C j))
set_option maxHeartbeats 4000000 in
set_option maxRecDepth 100000 in
theorem cb_Faults {G : mG} {l : Launch} (d : Nat) {h : mH} {w : Nat} {c : Nat → Int} {C : Nat → Nat → Int} {nm : Nat → Int64} {g : Nat → Option Nat} (hW : isW h w c C nm g) {w2 : Nat} {c2 : Nat → Int} {C2 : Nat → Nat → Int} {nm2 : Nat → Int64} {g2 : Nat → Option Nat} (hW2 : isW h w2 c2 C2 nm2 g2) (hdis : w + 177 ≤ w2 ∨ w2 + 177 ≤ w) {sz : Nat → Nat} (hsz : szW c2 sz) : RUNM G l (d + 1) mX0_become [.ref (wA w 10), .ref (wA w2 10)] h (fun v h' => v = none ∧ isW h' w (fbC c c2) (ibD (ibD (ibD C C2 sz 3) C2 sz 4) C2 sz 5) nm g ∧ Same (wBlk w) h h') := by
  refine RUNM.of (by decide +kernel) (Nat.le_of_ble_eq_true rfl) ?_
  refine r_aload_n (pc := 0) dX0_become_0 rfl (by first | rfl | exact isRefV_rf _) ?_
  refine r_getf (pc := 1) dX0_become_1 fX0_14 (by first | assumption | exact isI.gx (by assumption) | exact isI.gc (by assumption) | exact isW.gx (by assumption) | exact isW.gF (by assumption) | exact isW.gT (by assumption) (by omega) | exact isW.gS (by assumption) (by omega) | exact isW.gK (by assumption) (by omega) | exact isW.g1 (by assumption) | exact isW.g2 (by assumption) | exact isW.g3 (by assumption) | exact isI.gx (isW.i0 (by assumption)) | exact isI.gc (isW.i0 (by assumption)) | exact isI.gx (isW.i1 (by assumption)) | exact isI.gc (isW.i1 (by assumption)) | exact isI.gx (isW.i2 (by assumption)) | exact isI.gc (isW.i2 (by assumption)) | exact isI.gx (isW.i3 (by assumption)) | exact isI.gc (isW.i3 (by assumption)) | exact isI.gx (isW.i4 (by assumption)) | exact isI.gc (isW.i4 (by assumption)) | exact isI.gx (isW.i5 (by assumption)) | exact isI.gc (isW.i5 (by assumption)) | exact isR.gx (by assumption) | exact isRd.gx (by assumption) | exact isSp.gx (by assumption) | exact isI.gx (isR.i (by assumption)) | exact isI.gx (isRd.i (by assumption)) | exact isI.gc (isRd.i (by assumption)) | exact isI.gx (isSp.i (by assumption)) | exact isW.gx (isR.w (by assumption)) | exact isW.gF (isR.w (by assumption)) | fail "no such object") (by rfl) ?_
  refine r_aload_n (pc := 4) dX0_become_4 rfl (by first | rfl | exact isRefV_rf _) ?_
  refine r_getf (pc := 5) dX0_become_5 fX0_14 (by first | assumption | exact isI.gx (by assumption) | exact isI.gc (by assumption) | exact isW.gx (by assumption) | exact isW.gF (by assumption) | exact isW.gT (by assumption) (by omega) | exact isW.gS (by assumption) (by omega) | exact isW.gK (by assumption) (by omega) | exact isW.g1 (by assumption) | exact isW.g2 (by assumption) | exact isW.g3 (by assumption) | exact isI.gx (isW.i0 (by assumption)) | exact isI.gc (isW.i0 (by assumption)) | exact isI.gx (isW.i1 (by assumption)) | exact isI.gc (isW.i1 (by assumption)) | exact isI.gx (isW.i2 (by assumption)) | exact isI.gc (isW.i2 (by assumption)) | exact isI.gx (isW.i3 (by assumption)) | exact isI.gc (isW.i3 (by assumption)) | exact isI.gx (isW.i4 (by assumption)) | exact isI.gc (isW.i4 (by assumption)) | exact isI.gx (isW.i5 (by assumption)) | exact isI.gc (isW.i5 (by assumption)) | exact isR.gx (by assumption) | exact isRd.gx (by assumption) | exact isSp.gx (by assumption) | exact isI.gx (isR.i (by assumption)) | exact isI.gx (isRd.i (by assumption)) | exact isI.gc (isRd.i (by assumption)) | exact isI.gx (isSp.i (by assumption)) | exact isW.gx (isR.w (by assumption)) | exact isW.gF (isR.w (by assumption)) | fail "no such object") (by rfl) ?_
  refine r_callV1 (pc := 8) dX0_become_8 qX1_become kX0_41 vX1_become (by first | assumption | exact isI.gx (by assumption) | exact isI.gc (by assumption) | exact isW.gx (by assumption) | exact isW.gF (by assumption) | exact isW.gT (by assumption) (by omega) | exact isW.gS (by assumption) (by omega) | exact isW.gK (by assumption) (by omega) | exact isW.g1 (by assumption) | exact isW.g2 (by assumption) | exact isW.g3 (by assumption) | exact isI.gx (isW.i0 (by assumption)) | exact isI.gc (isW.i0 (by assumption)) | exact isI.gx (isW.i1 (by assumption)) | exact isI.gc (isW.i1 (by assumption)) | exact isI.gx (isW.i2 (by assumption)) | exact isI.gc (isW.i2 (by assumption)) | exact isI.gx (isW.i3 (by assumption)) | exact isI.gc (isW.i3 (by assumption)) | exact isI.gx (isW.i4 (by assumption)) | exact isI.gc (isW.i4 (by assumption)) | exact isI.gx (isW.i5 (by assumption)) | exact isI.gc (isW.i5 (by assumption)) | exact isR.gx (by assumption) | exact isRd.gx (by assumption) | exact isSp.gx (by assumption) | exact isI.gx (isR.i (by assumption)) | exact isI.gx (isRd.i (by assumption)) | exact isI.gc (isRd.i (by assumption)) | exact isI.gx (isSp.i (by assumption)) | exact isW.gx (isR.w (by assumption)) | exact isW.gF (isR.w (by assumption)) | fail "no such object") rfl rfl (Nat.le_of_ble_eq_true rfl) (cb_Ints _ hW hW2 hdis hsz (j := 3) (by decide)) (fun v_8 h_8 q_8 => ?_)
  obtain ⟨rfl, hW_8, T_8⟩ := q_8
  have hV_8 := hW2.kept T_8 (fun b hb hb2 => by unfold wBlk at hb hb2; omega)
  refine r_aload_n (pc := 11) dX0_become_11 rfl (by first | rfl | exact isRefV_rf _) ?_
  refine r_getf (pc := 12) dX0_become_12 fX0_20 (by first | assumption | exact isI.gx (by assumption) | exact isI.gc (by assumption) | exact isW.gx (by assumption) | exact isW.gF (by assumption) | exact isW.gT (by assumption) (by omega) | exact isW.gS (by assumption) (by omega) | exact isW.gK (by assumption) (by omega) | exact isW.g1 (by assumption) | exact isW.g2 (by assumption) | exact isW.g3 (by assumption) | exact isI.gx (isW.i0 (by assumption)) | exact isI.gc (isW.i0 (by assumption)) | exact isI.gx (isW.i1 (by assumption)) | exact isI.gc (isW.i1 (by assumption)) | exact isI.gx (isW.i2 (by assumption)) | exact isI.gc (isW.i2 (by assumption)) | exact isI.gx (isW.i3 (by assumption)) | exact isI.gc (isW.i3 (by assumption)) | exact isI.gx (isW.i4 (by assumption)) | exact isI.gc (isW.i4 (by assumption)) | exact isI.gx (isW.i5 (by assumption)) | exact isI.gc (isW.i5 (by assumption)) | exact isR.gx (by assumption) | exact isRd.gx (by assumption) | exact isSp.gx (by assumption) | exact isI.gx (isR.i (by assumption)) | exact isI.gx (isRd.i (by assumption)) | exact isI.gc (isRd.i (by assumption)) | exact isI.gx (isSp.i (by assumption)) | exact isW.gx (isR.w (by assumption)) | exact isW.gF (isR.w (by assumption)) | fail "no such object") (by rfl) ?_
  refine r_aload_n (pc := 15) dX0_become_15 rfl (by first | rfl | exact isRefV_rf _) ?_
  refine r_getf (pc := 16) dX0_become_16 fX0_20 (by first | assumption | exact isI.gx (by assumption) | exact isI.gc (by assumption) | exact isW.gx (by assumption) | exact isW.gF (by assumption) | exact isW.gT (by assumption) (by omega) | exact isW.gS (by assumption) (by omega) | exact isW.gK (by assumption) (by omega) | exact isW.g1 (by assumption) | exact isW.g2 (by assumption) | exact isW.g3 (by assumption) | exact isI.gx (isW.i0 (by assumption)) | exact isI.gc (isW.i0 (by assumption)) | exact isI.gx (isW.i1 (by assumption)) | exact isI.gc (isW.i1 (by assumption)) | exact isI.gx (isW.i2 (by assumption)) | exact isI.gc (isW.i2 (by assumption)) | exact isI.gx (isW.i3 (by assumption)) | exact isI.gc (isW.i3 (by assumption)) | exact isI.gx (isW.i4 (by assumption)) | exact isI.gc (isW.i4 (by assumption)) | exact isI.gx (isW.i5 (by assumption)) | exact isI.gc (isW.i5 (by assumption)) | exact isR.gx (by assumption) | exact isRd.gx (by assumption) | exact isSp.gx (by assumption) | exact isI.gx (isR.i (by assumption)) | exact isI.gx (isRd.i (by assumption)) | exact isI.gc (isRd.i (by assumption)) | exact isI.gx (isSp.i (by assumption)) | exact isW.gx (isR.w (by assumption)) | exact isW.gF (isR.w (by assumption)) | fail "no such object") (by rfl) ?_
  refine r_callV1 (pc := 19) dX0_become_19 qX1_become kX0_41 vX1_become (by first | assumption | exact isI.gx (by assumption) | exact isI.gc (by assumption) | exact isW.gx (by assumption) | exact isW.gF (by assumption) | exact isW.gT (by assumption) (by omega) | exact isW.gS (by assumption) (by omega) | exact isW.gK (by assumption) (by omega) | exact isW.g1 (by assumption) | exact isW.g2 (by assumption) | exact isW.g3 (by assumption) | exact isI.gx (isW.i0 (by assumption)) | exact isI.gc (isW.i0 (by assumption)) | exact isI.gx (isW.i1 (by assumption)) | exact isI.gc (isW.i1 (by assumption)) | exact isI.gx (isW.i2 (by assumption)) | exact isI.gc (isW.i2 (by assumption)) | exact isI.gx (isW.i3 (by assumption)) | exact isI.gc (isW.i3 (by assumption)) | exact isI.gx (isW.i4 (by assumption)) | exact isI.gc (isW.i4 (by assumption)) | exact isI.gx (isW.i5 (by assumption)) | exact isI.gc (isW.i5 (by assumption)) | exact isR.gx (by assumption) | exact isRd.gx (by assumption) | exact isSp.gx (by assumption) | exact isI.gx (isR.i (by assumption)) | exact isI.gx (isRd.i (by assumption)) | exact isI.gc (isRd.i (by assumption)) | exact isI.gx (isSp.i (by assumption)) | exact isW.gx (isR.w (by assumption)) | exact isW.gF (isR.w (by assumption)) | fail "no such object") rfl rfl (Nat.le_of_ble_eq_true rfl) (cb_Ints _ hW_8 hV_8 hdis hsz (j := 4) (by decide)) (fun v_19 h_19 q_19 => ?_)
  obtain ⟨rfl, hW_19, T_19⟩ := q_19
  have hV_19 := hV_8.kept T_19 (fun b hb hb2 => by unfold wBlk at hb hb2; omega)
  refine r_aload_n (pc := 22) dX0_become_22 rfl (by first | rfl | exact isRefV_rf _) ?_
  refine r_getf (pc := 23) dX0_become_23 fX0_23 (by first | assumption | exact isI.gx (by assumption) | exact isI.gc (by assumption) | exact isW.gx (by assumption) | exact isW.gF (by assumption) | exact isW.gT (by assumption) (by omega) | exact isW.gS (by assumption) (by omega) | exact isW.gK (by assumption) (by omega) | exact isW.g1 (by assumption) | exact isW.g2 (by assumption) | exact isW.g3 (by assumption) | exact isI.gx (isW.i0 (by assumption)) | exact isI.gc (isW.i0 (by assumption)) | exact isI.gx (isW.i1 (by assumption)) | exact isI.gc (isW.i1 (by assumption)) | exact isI.gx (isW.i2 (by assumption)) | exact isI.gc (isW.i2 (by assumption)) | exact isI.gx (isW.i3 (by assumption)) | exact isI.gc (isW.i3 (by assumption)) | exact isI.gx (isW.i4 (by assumption)) | exact isI.gc (isW.i4 (by assumption)) | exact isI.gx (isW.i5 (by assumption)) | exact isI.gc (isW.i5 (by assumption)) | exact isR.gx (by assumption) | exact isRd.gx (by assumption) | exact isSp.gx (by assumption) | exact isI.gx (isR.i (by assumption)) | exact isI.gx (isRd.i (by assumption)) | exact isI.gc (isRd.i (by assumption)) | exact isI.gx (isSp.i (by assumption)) | exact isW.gx (isR.w (by assumption)) | exact isW.gF (isR.w (by assumption)) | fail "no such object") (by rfl) ?_
  refine r_aload_n (pc := 26) dX0_become_26 rfl (by first | rfl | exact isRefV_rf _) ?_
  refine r_getf (pc := 27) dX0_become_27 fX0_23 (by first | assumption | exact isI.gx (by assumption) | exact isI.gc (by assumption) | exact isW.gx (by assumption) | exact isW.gF (by assumption) | exact isW.gT (by assumption) (by omega) | exact isW.gS (by assumption) (by omega) | exact isW.gK (by assumption) (by omega) | exact isW.g1 (by assumption) | exact isW.g2 (by assumption) | exact isW.g3 (by assumption) | exact isI.gx (isW.i0 (by assumption)) | exact isI.gc (isW.i0 (by assumption)) | exact isI.gx (isW.i1 (by assumption)) | exact isI.gc (isW.i1 (by assumption)) | exact isI.gx (isW.i2 (by assumption)) | exact isI.gc (isW.i2 (by assumption)) | exact isI.gx (isW.i3 (by assumption)) | exact isI.gc (isW.i3 (by assumption)) | exact isI.gx (isW.i4 (by assumption)) | exact isI.gc (isW.i4 (by assumption)) | exact isI.gx (isW.i5 (by assumption)) | exact isI.gc (isW.i5 (by assumption)) | exact isR.gx (by assumption) | exact isRd.gx (by assumption) | exact isSp.gx (by assumption) | exact isI.gx (isR.i (by assumption)) | exact isI.gx (isRd.i (by assumption)) | exact isI.gc (isRd.i (by assumption)) | exact isI.gx (isSp.i (by assumption)) | exact isW.gx (isR.w (by assumption)) | exact isW.gF (isR.w (by assumption)) | fail "no such object") (by rfl) ?_
  refine r_callV1 (pc := 30) dX0_become_30 qX1_become kX0_41 vX1_become (by first | assumption | exact isI.gx (by assumption) | exact isI.gc (by assumption) | exact isW.gx (by assumption) | exact isW.gF (by assumption) | exact isW.gT (by assumption) (by omega) | exact isW.gS (by assumption) (by omega) | exact isW.gK (by assumption) (by omega) | exact isW.g1 (by assumption) | exact isW.g2 (by assumption) | exact isW.g3 (by assumption) | exact isI.gx (isW.i0 (by assumption)) | exact isI.gc (isW.i0 (by assumption)) | exact isI.gx (isW.i1 (by assumption)) | exact isI.gc (isW.i1 (by assumption)) | exact isI.gx (isW.i2 (by assumption)) | exact isI.gc (isW.i2 (by assumption)) | exact isI.gx (isW.i3 (by assumption)) | exact isI.gc (isW.i3 (by assumption)) | exact isI.gx (isW.i4 (by assumption)) | exact isI.gc (isW.i4 (by assumption)) | exact isI.gx (isW.i5 (by assumption)) | exact isI.gc (isW.i5 (by assumption)) | exact isR.gx (by assumption) | exact isRd.gx (by assumption) | exact isSp.gx (by assumption) | exact isI.gx (isR.i (by assumption)) | exact isI.gx (isRd.i (by assumption)) | exact isI.gc (isRd.i (by assumption)) | exact isI.gx (isSp.i (by assumption)) | exact isW.gx (isR.w (by assumption)) | exact isW.gF (isR.w (by assumption)) | fail "no such object") rfl rfl (Nat.le_of_ble_eq_true rfl) (cb_Ints _ hW_19 hV_19 hdis hsz (j := 5) (by decide)) (fun v_30 h_30 q_30 => ?_)
  obtain ⟨rfl, hW_30, T_30⟩ := q_30
  have hV_30 := hV_19.kept T_30 (fun b hb hb2 => by unfold wBlk at hb hb2; omega)
  refine r_aload_n (pc := 33) dX0_become_33 rfl (by first | rfl | exact isRefV_rf _) ?_
  refine r_aload_n (pc := 34) dX0_become_34 rfl (by first | rfl | exact isRefV_rf _) ?_
  refine r_getf (pc := 35) dX0_become_35 fX0_34 (by first | assumption | exact isI.gx (by assumption) | exact isI.gc (by assumption) | exact isW.gx (by assumption) | exact isW.gF (by assumption) | exact isW.gT (by assumption) (by omega) | exact isW.gS (by assumption) (by omega) | exact isW.gK (by assumption) (by omega) | exact isW.g1 (by assumption) | exact isW.g2 (by assumption) | exact isW.g3 (by assumption) | exact isI.gx (isW.i0 (by assumption)) | exact isI.gc (isW.i0 (by assumption)) | exact isI.gx (isW.i1 (by assumption)) | exact isI.gc (isW.i1 (by assumption)) | exact isI.gx (isW.i2 (by assumption)) | exact isI.gc (isW.i2 (by assumption)) | exact isI.gx (isW.i3 (by assumption)) | exact isI.gc (isW.i3 (by assumption)) | exact isI.gx (isW.i4 (by assumption)) | exact isI.gc (isW.i4 (by assumption)) | exact isI.gx (isW.i5 (by assumption)) | exact isI.gc (isW.i5 (by assumption)) | exact isR.gx (by assumption) | exact isRd.gx (by assumption) | exact isSp.gx (by assumption) | exact isI.gx (isR.i (by assumption)) | exact isI.gx (isRd.i (by assumption)) | exact isI.gc (isRd.i (by assumption)) | exact isI.gx (isSp.i (by assumption)) | exact isW.gx (isR.w (by assumption)) | exact isW.gF (isR.w (by assumption)) | fail "no such object") (by rfl) ?_
  refine rc_putF (pc := 38) dX0_become_38 fX0_34 (by assumption) (fun h_38 hW_38 hS_38 => ?_)
  refine r_return (pc := 41) dX0_become_41 rfl ?_
  exact ⟨rfl, hW_38, ((T_8.trans T_19).trans T_30).trans hS_38⟩
noncomputable def wbC (c c2 : Nat → Int) (N S K : Nat) : Nat → Int := fbC (updI (updI (updI (updI (mixR (updI (mixR (updI (mixR (updI c 0 (c2 0)) c2 32 (32 + 3 * N)) 1 (c2 1)) c2 304 (304 + 3 * S)) 2 (c2 2)) c2 488 (488 + 9 * K)) 3 (c2 3)) (8 + 0) (c2 (8 + 0))) (8 + 1) (c2 (8 + 1))) (8 + 2) (c2 (8 + 2))) c2
noncomputable def wbD (C C2 : Nat → Nat → Int) (sz : Nat → Nat) : Nat → Nat → Int := ibD (ibD (ibD (ibD (ibD (ibD C C2 sz 0) C2 sz 1) C2 sz 2) C2 sz 3) C2 sz 4) C2 sz 5
noncomputable def wbG (g g2 : Nat → Option Nat) (N K : Nat) : Nat → Option Nat := mixO (mixE g g2 N) g2 180 (180 + 2 * K)
set_option maxHeartbeats 4000000 in
set_option maxRecDepth 100000 in
theorem cb_World {G : mG} {l : Launch} (d : Nat) {h : mH} {w : Nat} {c : Nat → Int} {C : Nat → Nat → Int} {nm : Nat → Int64} {g : Nat → Option Nat} (hW : isW h w c C nm g) (hc : ∀ q, InR (c q)) {w2 : Nat} {c2 : Nat → Int} {C2 : Nat → Nat → Int} {nm2 : Nat → Int64} {g2 : Nat → Option Nat} (hW2 : isW h w2 c2 C2 nm2 g2) (hdis : w + 177 ≤ w2 ∨ w2 + 177 ≤ w) (hc2 : ∀ q, InR (c2 q)) {sz : Nat → Nat} (hsz : szW c2 sz) {N S K : Nat} (hN : c2 0 = (N : Int)) (hcN : N ≤ 90) (hS : c2 1 = (S : Int)) (hcS : S ≤ 60) (hK : c2 2 = (K : Int)) (hcK : K ≤ 10) (hb : ∀ q, q < K → c2 (496 + 9 * q) = 0 ∨ c2 (496 + 9 * q) = 1) : RUNM G l (d + 2) mX9_become [.ref w, .ref w2] h (fun v h' => v = none ∧ isW h' w (wbC c c2 N S K) (wbD C C2 sz) (mixL nm nm2 N) (wbG g g2 N K) ∧ Same (wBlk w) h h') := by
  refine RUNM.of (by decide +kernel) (Nat.le_of_ble_eq_true rfl) ?_
  refine r_aload_n (pc := 0) dX9_become_0 rfl (by first | rfl | exact isRefV_rf _) ?_
  refine r_aload_n (pc := 1) dX9_become_1 rfl (by first | rfl | exact isRefV_rf _) ?_
  refine r_getf (pc := 2) dX9_become_2 fX9_71 (by first | assumption | exact isI.gx (by assumption) | exact isI.gc (by assumption) | exact isW.gx (by assumption) | exact isW.gF (by assumption) | exact isW.gT (by assumption) (by omega) | exact isW.gS (by assumption) (by omega) | exact isW.gK (by assumption) (by omega) | exact isW.g1 (by assumption) | exact isW.g2 (by assumption) | exact isW.g3 (by assumption) | exact isI.gx (isW.i0 (by assumption)) | exact isI.gc (isW.i0 (by assumption)) | exact isI.gx (isW.i1 (by assumption)) | exact isI.gc (isW.i1 (by assumption)) | exact isI.gx (isW.i2 (by assumption)) | exact isI.gc (isW.i2 (by assumption)) | exact isI.gx (isW.i3 (by assumption)) | exact isI.gc (isW.i3 (by assumption)) | exact isI.gx (isW.i4 (by assumption)) | exact isI.gc (isW.i4 (by assumption)) | exact isI.gx (isW.i5 (by assumption)) | exact isI.gc (isW.i5 (by assumption)) | exact isR.gx (by assumption) | exact isRd.gx (by assumption) | exact isSp.gx (by assumption) | exact isI.gx (isR.i (by assumption)) | exact isI.gx (isRd.i (by assumption)) | exact isI.gc (isRd.i (by assumption)) | exact isI.gx (isSp.i (by assumption)) | exact isW.gx (isR.w (by assumption)) | exact isW.gF (isR.w (by assumption)) | fail "no such object") (by rfl) ?_
  refine rc_putw0 (pc := 5) dX9_become_5 fX9_71 (by assumption) (fun h_5 hW_5 hS_5 => ?_)
  have hV_5 := hW2.kept hS_5 (fun b hb hb2 => by unfold wBlk at hb hb2; omega)
  have hR0 := updI_R hc (k := 0) (v := c2 0) (hc2 0)
  refine rj_iconst (pc := 8) dX9_become_8 ?_
  refine r_istore_n (pc := 9) dX9_become_9 (Nat.le_of_ble_eq_true rfl) ?_
  dsimp only [lsSt, List.set, mLs, mEnt]
  rw [← mixR_0 (updI c 0 (c2 0)) c2 32, ← mixL_0 nm nm2, ← mixE_0 g g2] at hW_5
  refine L_beT d hdis hR0 hc2 (N := N) (updI_s.trans hN) hcN N 0 h_5 hW_5 hV_5 (by omega) (fun h_1 W_1 V_1 S_1 => ?_)
  refine r_aload_n (pc := 57) dX9_become_57 rfl (by first | rfl | exact isRefV_rf _) ?_
  refine r_aload_n (pc := 58) dX9_become_58 rfl (by first | rfl | exact isRefV_rf _) ?_
  refine r_getf (pc := 59) dX9_become_59 fX9_57 (by first | assumption | exact isI.gx (by assumption) | exact isI.gc (by assumption) | exact isW.gx (by assumption) | exact isW.gF (by assumption) | exact isW.gT (by assumption) (by omega) | exact isW.gS (by assumption) (by omega) | exact isW.gK (by assumption) (by omega) | exact isW.g1 (by assumption) | exact isW.g2 (by assumption) | exact isW.g3 (by assumption) | exact isI.gx (isW.i0 (by assumption)) | exact isI.gc (isW.i0 (by assumption)) | exact isI.gx (isW.i1 (by assumption)) | exact isI.gc (isW.i1 (by assumption)) | exact isI.gx (isW.i2 (by assumption)) | exact isI.gc (isW.i2 (by assumption)) | exact isI.gx (isW.i3 (by assumption)) | exact isI.gc (isW.i3 (by assumption)) | exact isI.gx (isW.i4 (by assumption)) | exact isI.gc (isW.i4 (by assumption)) | exact isI.gx (isW.i5 (by assumption)) | exact isI.gc (isW.i5 (by assumption)) | exact isR.gx (by assumption) | exact isRd.gx (by assumption) | exact isSp.gx (by assumption) | exact isI.gx (isR.i (by assumption)) | exact isI.gx (isRd.i (by assumption)) | exact isI.gc (isRd.i (by assumption)) | exact isI.gx (isSp.i (by assumption)) | exact isW.gx (isR.w (by assumption)) | exact isW.gF (isR.w (by assumption)) | fail "no such object") (by rfl) ?_
  refine rc_putw1 (pc := 62) dX9_become_62 fX9_57 (by assumption) (fun h_62 hW_62 hS_62 => ?_)
  have hV_62 := V_1.kept hS_62 (fun b hb hb2 => by unfold wBlk at hb hb2; omega)
  have hR1 := updI_R (mixR_r hR0 hc2 (lo := 32) (hi := 32 + 3 * N)) (k := 1) (v := c2 1) (hc2 1)
  refine rj_iconst (pc := 65) dX9_become_65 ?_
  refine r_istore_n (pc := 66) dX9_become_66 (Nat.le_of_ble_eq_true rfl) ?_
  dsimp only [lsSt, List.set, mLs, mEnt]
  rw [← mixR_0 (updI (mixR (updI c 0 (c2 0)) c2 32 (32 + 3 * N)) 1 (c2 1)) c2 304] at hW_62
  refine L_beS d hdis hR1 hc2 (N := S) (updI_s.trans hS) hcS S 0 h_62 hW_62 hV_62 (by omega) (fun h_2 W_2 V_2 S_2 => ?_)
  refine r_aload_n (pc := 114) dX9_become_114 rfl (by first | rfl | exact isRefV_rf _) ?_
  refine r_aload_n (pc := 115) dX9_become_115 rfl (by first | rfl | exact isRefV_rf _) ?_
  refine r_getf (pc := 116) dX9_become_116 fX9_81 (by first | assumption | exact isI.gx (by assumption) | exact isI.gc (by assumption) | exact isW.gx (by assumption) | exact isW.gF (by assumption) | exact isW.gT (by assumption) (by omega) | exact isW.gS (by assumption) (by omega) | exact isW.gK (by assumption) (by omega) | exact isW.g1 (by assumption) | exact isW.g2 (by assumption) | exact isW.g3 (by assumption) | exact isI.gx (isW.i0 (by assumption)) | exact isI.gc (isW.i0 (by assumption)) | exact isI.gx (isW.i1 (by assumption)) | exact isI.gc (isW.i1 (by assumption)) | exact isI.gx (isW.i2 (by assumption)) | exact isI.gc (isW.i2 (by assumption)) | exact isI.gx (isW.i3 (by assumption)) | exact isI.gc (isW.i3 (by assumption)) | exact isI.gx (isW.i4 (by assumption)) | exact isI.gc (isW.i4 (by assumption)) | exact isI.gx (isW.i5 (by assumption)) | exact isI.gc (isW.i5 (by assumption)) | exact isR.gx (by assumption) | exact isRd.gx (by assumption) | exact isSp.gx (by assumption) | exact isI.gx (isR.i (by assumption)) | exact isI.gx (isRd.i (by assumption)) | exact isI.gc (isRd.i (by assumption)) | exact isI.gx (isSp.i (by assumption)) | exact isW.gx (isR.w (by assumption)) | exact isW.gF (isR.w (by assumption)) | fail "no such object") (by rfl) ?_
  refine rc_putw2 (pc := 119) dX9_become_119 fX9_81 (by assumption) (fun h_119 hW_119 hS_119 => ?_)
  have hV_119 := V_2.kept hS_119 (fun b hb hb2 => by unfold wBlk at hb hb2; omega)
  have hR2 := updI_R (mixR_r hR1 hc2 (lo := 304) (hi := 304 + 3 * S)) (k := 2) (v := c2 2) (hc2 2)
  refine rj_iconst (pc := 122) dX9_become_122 ?_
  refine r_istore_n (pc := 123) dX9_become_123 (Nat.le_of_ble_eq_true rfl) ?_
  dsimp only [lsSt, List.set, mLs, mEnt]
  rw [← mixR_0 (updI (mixR (updI (mixR (updI c 0 (c2 0)) c2 32 (32 + 3 * N)) 1 (c2 1)) c2 304 (304 + 3 * S)) 2 (c2 2)) c2 488, ← mixO_0 (mixE g g2 N) g2 180] at hW_119
  refine L_beK d hdis hR2 hc2 (N := K) (updI_s.trans hK) hcK hb K 0 h_119 hW_119 hV_119 (by omega) (fun h_3 W_3 V_3 S_3 => ?_)
  refine r_aload_n (pc := 171) dX9_become_171 rfl (by first | rfl | exact isRefV_rf _) ?_
  refine r_aload_n (pc := 172) dX9_become_172 rfl (by first | rfl | exact isRefV_rf _) ?_
  refine r_getf (pc := 173) dX9_become_173 fX9_87 (by first | assumption | exact isI.gx (by assumption) | exact isI.gc (by assumption) | exact isW.gx (by assumption) | exact isW.gF (by assumption) | exact isW.gT (by assumption) (by omega) | exact isW.gS (by assumption) (by omega) | exact isW.gK (by assumption) (by omega) | exact isW.g1 (by assumption) | exact isW.g2 (by assumption) | exact isW.g3 (by assumption) | exact isI.gx (isW.i0 (by assumption)) | exact isI.gc (isW.i0 (by assumption)) | exact isI.gx (isW.i1 (by assumption)) | exact isI.gc (isW.i1 (by assumption)) | exact isI.gx (isW.i2 (by assumption)) | exact isI.gc (isW.i2 (by assumption)) | exact isI.gx (isW.i3 (by assumption)) | exact isI.gc (isW.i3 (by assumption)) | exact isI.gx (isW.i4 (by assumption)) | exact isI.gc (isW.i4 (by assumption)) | exact isI.gx (isW.i5 (by assumption)) | exact isI.gc (isW.i5 (by assumption)) | exact isR.gx (by assumption) | exact isRd.gx (by assumption) | exact isSp.gx (by assumption) | exact isI.gx (isR.i (by assumption)) | exact isI.gx (isRd.i (by assumption)) | exact isI.gc (isRd.i (by assumption)) | exact isI.gx (isSp.i (by assumption)) | exact isW.gx (isR.w (by assumption)) | exact isW.gF (isR.w (by assumption)) | fail "no such object") (by rfl) ?_
  refine rc_putw3 (pc := 176) dX9_become_176 fX9_87 (by assumption) (fun h_176 hW_176 hS_176 => ?_)
  have hV_176 := V_3.kept hS_176 (fun b hb hb2 => by unfold wBlk at hb hb2; omega)
  refine r_aload_n (pc := 179) dX9_become_179 rfl (by first | rfl | exact isRefV_rf _) ?_
  refine r_getf (pc := 180) dX9_become_180 fX9_34 (by first | assumption | exact isI.gx (by assumption) | exact isI.gc (by assumption) | exact isW.gx (by assumption) | exact isW.gF (by assumption) | exact isW.gT (by assumption) (by omega) | exact isW.gS (by assumption) (by omega) | exact isW.gK (by assumption) (by omega) | exact isW.g1 (by assumption) | exact isW.g2 (by assumption) | exact isW.g3 (by assumption) | exact isI.gx (isW.i0 (by assumption)) | exact isI.gc (isW.i0 (by assumption)) | exact isI.gx (isW.i1 (by assumption)) | exact isI.gc (isW.i1 (by assumption)) | exact isI.gx (isW.i2 (by assumption)) | exact isI.gc (isW.i2 (by assumption)) | exact isI.gx (isW.i3 (by assumption)) | exact isI.gc (isW.i3 (by assumption)) | exact isI.gx (isW.i4 (by assumption)) | exact isI.gc (isW.i4 (by assumption)) | exact isI.gx (isW.i5 (by assumption)) | exact isI.gc (isW.i5 (by assumption)) | exact isR.gx (by assumption) | exact isRd.gx (by assumption) | exact isSp.gx (by assumption) | exact isI.gx (isR.i (by assumption)) | exact isI.gx (isRd.i (by assumption)) | exact isI.gc (isRd.i (by assumption)) | exact isI.gx (isSp.i (by assumption)) | exact isW.gx (isR.w (by assumption)) | exact isW.gF (isR.w (by assumption)) | fail "no such object") (by rfl) ?_
  refine r_aload_n (pc := 183) dX9_become_183 rfl (by first | rfl | exact isRefV_rf _) ?_
  refine r_getf (pc := 184) dX9_become_184 fX9_34 (by first | assumption | exact isI.gx (by assumption) | exact isI.gc (by assumption) | exact isW.gx (by assumption) | exact isW.gF (by assumption) | exact isW.gT (by assumption) (by omega) | exact isW.gS (by assumption) (by omega) | exact isW.gK (by assumption) (by omega) | exact isW.g1 (by assumption) | exact isW.g2 (by assumption) | exact isW.g3 (by assumption) | exact isI.gx (isW.i0 (by assumption)) | exact isI.gc (isW.i0 (by assumption)) | exact isI.gx (isW.i1 (by assumption)) | exact isI.gc (isW.i1 (by assumption)) | exact isI.gx (isW.i2 (by assumption)) | exact isI.gc (isW.i2 (by assumption)) | exact isI.gx (isW.i3 (by assumption)) | exact isI.gc (isW.i3 (by assumption)) | exact isI.gx (isW.i4 (by assumption)) | exact isI.gc (isW.i4 (by assumption)) | exact isI.gx (isW.i5 (by assumption)) | exact isI.gc (isW.i5 (by assumption)) | exact isR.gx (by assumption) | exact isRd.gx (by assumption) | exact isSp.gx (by assumption) | exact isI.gx (isR.i (by assumption)) | exact isI.gx (isRd.i (by assumption)) | exact isI.gc (isRd.i (by assumption)) | exact isI.gx (isSp.i (by assumption)) | exact isW.gx (isR.w (by assumption)) | exact isW.gF (isR.w (by assumption)) | fail "no such object") (by rfl) ?_
  refine r_callV1 (pc := 187) dX9_become_187 qX1_become kX9_90 vX1_become (by first | assumption | exact isI.gx (by assumption) | exact isI.gc (by assumption) | exact isW.gx (by assumption) | exact isW.gF (by assumption) | exact isW.gT (by assumption) (by omega) | exact isW.gS (by assumption) (by omega) | exact isW.gK (by assumption) (by omega) | exact isW.g1 (by assumption) | exact isW.g2 (by assumption) | exact isW.g3 (by assumption) | exact isI.gx (isW.i0 (by assumption)) | exact isI.gc (isW.i0 (by assumption)) | exact isI.gx (isW.i1 (by assumption)) | exact isI.gc (isW.i1 (by assumption)) | exact isI.gx (isW.i2 (by assumption)) | exact isI.gc (isW.i2 (by assumption)) | exact isI.gx (isW.i3 (by assumption)) | exact isI.gc (isW.i3 (by assumption)) | exact isI.gx (isW.i4 (by assumption)) | exact isI.gc (isW.i4 (by assumption)) | exact isI.gx (isW.i5 (by assumption)) | exact isI.gc (isW.i5 (by assumption)) | exact isR.gx (by assumption) | exact isRd.gx (by assumption) | exact isSp.gx (by assumption) | exact isI.gx (isR.i (by assumption)) | exact isI.gx (isRd.i (by assumption)) | exact isI.gc (isRd.i (by assumption)) | exact isI.gx (isSp.i (by assumption)) | exact isW.gx (isR.w (by assumption)) | exact isW.gF (isR.w (by assumption)) | fail "no such object") rfl rfl (Nat.le_of_ble_eq_true rfl) (cb_Ints _ hW_176 hV_176 hdis hsz (j := 0) (by decide)) (fun v_187 h_187 q_187 => ?_)
  obtain ⟨rfl, hW_187, T_187⟩ := q_187
  have hV_187 := hV_176.kept T_187 (fun b hb hb2 => by unfold wBlk at hb hb2; omega)
  refine r_aload_n (pc := 190) dX9_become_190 rfl (by first | rfl | exact isRefV_rf _) ?_
  refine r_getf (pc := 191) dX9_become_191 fX9_38 (by first | assumption | exact isI.gx (by assumption) | exact isI.gc (by assumption) | exact isW.gx (by assumption) | exact isW.gF (by assumption) | exact isW.gT (by assumption) (by omega) | exact isW.gS (by assumption) (by omega) | exact isW.gK (by assumption) (by omega) | exact isW.g1 (by assumption) | exact isW.g2 (by assumption) | exact isW.g3 (by assumption) | exact isI.gx (isW.i0 (by assumption)) | exact isI.gc (isW.i0 (by assumption)) | exact isI.gx (isW.i1 (by assumption)) | exact isI.gc (isW.i1 (by assumption)) | exact isI.gx (isW.i2 (by assumption)) | exact isI.gc (isW.i2 (by assumption)) | exact isI.gx (isW.i3 (by assumption)) | exact isI.gc (isW.i3 (by assumption)) | exact isI.gx (isW.i4 (by assumption)) | exact isI.gc (isW.i4 (by assumption)) | exact isI.gx (isW.i5 (by assumption)) | exact isI.gc (isW.i5 (by assumption)) | exact isR.gx (by assumption) | exact isRd.gx (by assumption) | exact isSp.gx (by assumption) | exact isI.gx (isR.i (by assumption)) | exact isI.gx (isRd.i (by assumption)) | exact isI.gc (isRd.i (by assumption)) | exact isI.gx (isSp.i (by assumption)) | exact isW.gx (isR.w (by assumption)) | exact isW.gF (isR.w (by assumption)) | fail "no such object") (by rfl) ?_
  refine r_aload_n (pc := 194) dX9_become_194 rfl (by first | rfl | exact isRefV_rf _) ?_
  refine r_getf (pc := 195) dX9_become_195 fX9_38 (by first | assumption | exact isI.gx (by assumption) | exact isI.gc (by assumption) | exact isW.gx (by assumption) | exact isW.gF (by assumption) | exact isW.gT (by assumption) (by omega) | exact isW.gS (by assumption) (by omega) | exact isW.gK (by assumption) (by omega) | exact isW.g1 (by assumption) | exact isW.g2 (by assumption) | exact isW.g3 (by assumption) | exact isI.gx (isW.i0 (by assumption)) | exact isI.gc (isW.i0 (by assumption)) | exact isI.gx (isW.i1 (by assumption)) | exact isI.gc (isW.i1 (by assumption)) | exact isI.gx (isW.i2 (by assumption)) | exact isI.gc (isW.i2 (by assumption)) | exact isI.gx (isW.i3 (by assumption)) | exact isI.gc (isW.i3 (by assumption)) | exact isI.gx (isW.i4 (by assumption)) | exact isI.gc (isW.i4 (by assumption)) | exact isI.gx (isW.i5 (by assumption)) | exact isI.gc (isW.i5 (by assumption)) | exact isR.gx (by assumption) | exact isRd.gx (by assumption) | exact isSp.gx (by assumption) | exact isI.gx (isR.i (by assumption)) | exact isI.gx (isRd.i (by assumption)) | exact isI.gc (isRd.i (by assumption)) | exact isI.gx (isSp.i (by assumption)) | exact isW.gx (isR.w (by assumption)) | exact isW.gF (isR.w (by assumption)) | fail "no such object") (by rfl) ?_
  refine r_callV1 (pc := 198) dX9_become_198 qX1_become kX9_90 vX1_become (by first | assumption | exact isI.gx (by assumption) | exact isI.gc (by assumption) | exact isW.gx (by assumption) | exact isW.gF (by assumption) | exact isW.gT (by assumption) (by omega) | exact isW.gS (by assumption) (by omega) | exact isW.gK (by assumption) (by omega) | exact isW.g1 (by assumption) | exact isW.g2 (by assumption) | exact isW.g3 (by assumption) | exact isI.gx (isW.i0 (by assumption)) | exact isI.gc (isW.i0 (by assumption)) | exact isI.gx (isW.i1 (by assumption)) | exact isI.gc (isW.i1 (by assumption)) | exact isI.gx (isW.i2 (by assumption)) | exact isI.gc (isW.i2 (by assumption)) | exact isI.gx (isW.i3 (by assumption)) | exact isI.gc (isW.i3 (by assumption)) | exact isI.gx (isW.i4 (by assumption)) | exact isI.gc (isW.i4 (by assumption)) | exact isI.gx (isW.i5 (by assumption)) | exact isI.gc (isW.i5 (by assumption)) | exact isR.gx (by assumption) | exact isRd.gx (by assumption) | exact isSp.gx (by assumption) | exact isI.gx (isR.i (by assumption)) | exact isI.gx (isRd.i (by assumption)) | exact isI.gc (isRd.i (by assumption)) | exact isI.gx (isSp.i (by assumption)) | exact isW.gx (isR.w (by assumption)) | exact isW.gF (isR.w (by assumption)) | fail "no such object") rfl rfl (Nat.le_of_ble_eq_true rfl) (cb_Ints _ hW_187 hV_187 hdis hsz (j := 1) (by decide)) (fun v_198 h_198 q_198 => ?_)
  obtain ⟨rfl, hW_198, T_198⟩ := q_198
  have hV_198 := hV_187.kept T_198 (fun b hb hb2 => by unfold wBlk at hb hb2; omega)
  refine r_aload_n (pc := 201) dX9_become_201 rfl (by first | rfl | exact isRefV_rf _) ?_
  refine r_getf (pc := 202) dX9_become_202 fX9_41 (by first | assumption | exact isI.gx (by assumption) | exact isI.gc (by assumption) | exact isW.gx (by assumption) | exact isW.gF (by assumption) | exact isW.gT (by assumption) (by omega) | exact isW.gS (by assumption) (by omega) | exact isW.gK (by assumption) (by omega) | exact isW.g1 (by assumption) | exact isW.g2 (by assumption) | exact isW.g3 (by assumption) | exact isI.gx (isW.i0 (by assumption)) | exact isI.gc (isW.i0 (by assumption)) | exact isI.gx (isW.i1 (by assumption)) | exact isI.gc (isW.i1 (by assumption)) | exact isI.gx (isW.i2 (by assumption)) | exact isI.gc (isW.i2 (by assumption)) | exact isI.gx (isW.i3 (by assumption)) | exact isI.gc (isW.i3 (by assumption)) | exact isI.gx (isW.i4 (by assumption)) | exact isI.gc (isW.i4 (by assumption)) | exact isI.gx (isW.i5 (by assumption)) | exact isI.gc (isW.i5 (by assumption)) | exact isR.gx (by assumption) | exact isRd.gx (by assumption) | exact isSp.gx (by assumption) | exact isI.gx (isR.i (by assumption)) | exact isI.gx (isRd.i (by assumption)) | exact isI.gc (isRd.i (by assumption)) | exact isI.gx (isSp.i (by assumption)) | exact isW.gx (isR.w (by assumption)) | exact isW.gF (isR.w (by assumption)) | fail "no such object") (by rfl) ?_
  refine r_aload_n (pc := 205) dX9_become_205 rfl (by first | rfl | exact isRefV_rf _) ?_
  refine r_getf (pc := 206) dX9_become_206 fX9_41 (by first | assumption | exact isI.gx (by assumption) | exact isI.gc (by assumption) | exact isW.gx (by assumption) | exact isW.gF (by assumption) | exact isW.gT (by assumption) (by omega) | exact isW.gS (by assumption) (by omega) | exact isW.gK (by assumption) (by omega) | exact isW.g1 (by assumption) | exact isW.g2 (by assumption) | exact isW.g3 (by assumption) | exact isI.gx (isW.i0 (by assumption)) | exact isI.gc (isW.i0 (by assumption)) | exact isI.gx (isW.i1 (by assumption)) | exact isI.gc (isW.i1 (by assumption)) | exact isI.gx (isW.i2 (by assumption)) | exact isI.gc (isW.i2 (by assumption)) | exact isI.gx (isW.i3 (by assumption)) | exact isI.gc (isW.i3 (by assumption)) | exact isI.gx (isW.i4 (by assumption)) | exact isI.gc (isW.i4 (by assumption)) | exact isI.gx (isW.i5 (by assumption)) | exact isI.gc (isW.i5 (by assumption)) | exact isR.gx (by assumption) | exact isRd.gx (by assumption) | exact isSp.gx (by assumption) | exact isI.gx (isR.i (by assumption)) | exact isI.gx (isRd.i (by assumption)) | exact isI.gc (isRd.i (by assumption)) | exact isI.gx (isSp.i (by assumption)) | exact isW.gx (isR.w (by assumption)) | exact isW.gF (isR.w (by assumption)) | fail "no such object") (by rfl) ?_
  refine r_callV1 (pc := 209) dX9_become_209 qX1_become kX9_90 vX1_become (by first | assumption | exact isI.gx (by assumption) | exact isI.gc (by assumption) | exact isW.gx (by assumption) | exact isW.gF (by assumption) | exact isW.gT (by assumption) (by omega) | exact isW.gS (by assumption) (by omega) | exact isW.gK (by assumption) (by omega) | exact isW.g1 (by assumption) | exact isW.g2 (by assumption) | exact isW.g3 (by assumption) | exact isI.gx (isW.i0 (by assumption)) | exact isI.gc (isW.i0 (by assumption)) | exact isI.gx (isW.i1 (by assumption)) | exact isI.gc (isW.i1 (by assumption)) | exact isI.gx (isW.i2 (by assumption)) | exact isI.gc (isW.i2 (by assumption)) | exact isI.gx (isW.i3 (by assumption)) | exact isI.gc (isW.i3 (by assumption)) | exact isI.gx (isW.i4 (by assumption)) | exact isI.gc (isW.i4 (by assumption)) | exact isI.gx (isW.i5 (by assumption)) | exact isI.gc (isW.i5 (by assumption)) | exact isR.gx (by assumption) | exact isRd.gx (by assumption) | exact isSp.gx (by assumption) | exact isI.gx (isR.i (by assumption)) | exact isI.gx (isRd.i (by assumption)) | exact isI.gc (isRd.i (by assumption)) | exact isI.gx (isSp.i (by assumption)) | exact isW.gx (isR.w (by assumption)) | exact isW.gF (isR.w (by assumption)) | fail "no such object") rfl rfl (Nat.le_of_ble_eq_true rfl) (cb_Ints _ hW_198 hV_198 hdis hsz (j := 2) (by decide)) (fun v_209 h_209 q_209 => ?_)
  obtain ⟨rfl, hW_209, T_209⟩ := q_209
  have hV_209 := hV_198.kept T_209 (fun b hb hb2 => by unfold wBlk at hb hb2; omega)
  refine r_aload_n (pc := 212) dX9_become_212 rfl (by first | rfl | exact isRefV_rf _) ?_
  refine r_getf (pc := 213) dX9_become_213 fX9_47 (by first | assumption | exact isI.gx (by assumption) | exact isI.gc (by assumption) | exact isW.gx (by assumption) | exact isW.gF (by assumption) | exact isW.gT (by assumption) (by omega) | exact isW.gS (by assumption) (by omega) | exact isW.gK (by assumption) (by omega) | exact isW.g1 (by assumption) | exact isW.g2 (by assumption) | exact isW.g3 (by assumption) | exact isI.gx (isW.i0 (by assumption)) | exact isI.gc (isW.i0 (by assumption)) | exact isI.gx (isW.i1 (by assumption)) | exact isI.gc (isW.i1 (by assumption)) | exact isI.gx (isW.i2 (by assumption)) | exact isI.gc (isW.i2 (by assumption)) | exact isI.gx (isW.i3 (by assumption)) | exact isI.gc (isW.i3 (by assumption)) | exact isI.gx (isW.i4 (by assumption)) | exact isI.gc (isW.i4 (by assumption)) | exact isI.gx (isW.i5 (by assumption)) | exact isI.gc (isW.i5 (by assumption)) | exact isR.gx (by assumption) | exact isRd.gx (by assumption) | exact isSp.gx (by assumption) | exact isI.gx (isR.i (by assumption)) | exact isI.gx (isRd.i (by assumption)) | exact isI.gc (isRd.i (by assumption)) | exact isI.gx (isSp.i (by assumption)) | exact isW.gx (isR.w (by assumption)) | exact isW.gF (isR.w (by assumption)) | fail "no such object") (by rfl) ?_
  refine r_aload_n (pc := 216) dX9_become_216 rfl (by first | rfl | exact isRefV_rf _) ?_
  refine r_getf (pc := 217) dX9_become_217 fX9_47 (by first | assumption | exact isI.gx (by assumption) | exact isI.gc (by assumption) | exact isW.gx (by assumption) | exact isW.gF (by assumption) | exact isW.gT (by assumption) (by omega) | exact isW.gS (by assumption) (by omega) | exact isW.gK (by assumption) (by omega) | exact isW.g1 (by assumption) | exact isW.g2 (by assumption) | exact isW.g3 (by assumption) | exact isI.gx (isW.i0 (by assumption)) | exact isI.gc (isW.i0 (by assumption)) | exact isI.gx (isW.i1 (by assumption)) | exact isI.gc (isW.i1 (by assumption)) | exact isI.gx (isW.i2 (by assumption)) | exact isI.gc (isW.i2 (by assumption)) | exact isI.gx (isW.i3 (by assumption)) | exact isI.gc (isW.i3 (by assumption)) | exact isI.gx (isW.i4 (by assumption)) | exact isI.gc (isW.i4 (by assumption)) | exact isI.gx (isW.i5 (by assumption)) | exact isI.gc (isW.i5 (by assumption)) | exact isR.gx (by assumption) | exact isRd.gx (by assumption) | exact isSp.gx (by assumption) | exact isI.gx (isR.i (by assumption)) | exact isI.gx (isRd.i (by assumption)) | exact isI.gc (isRd.i (by assumption)) | exact isI.gx (isSp.i (by assumption)) | exact isW.gx (isR.w (by assumption)) | exact isW.gF (isR.w (by assumption)) | fail "no such object") (by rfl) ?_
  refine r_callV1 (pc := 220) dX9_become_220 qX0_become kX9_93 vX0_become (by first | assumption | exact isI.gx (by assumption) | exact isI.gc (by assumption) | exact isW.gx (by assumption) | exact isW.gF (by assumption) | exact isW.gT (by assumption) (by omega) | exact isW.gS (by assumption) (by omega) | exact isW.gK (by assumption) (by omega) | exact isW.g1 (by assumption) | exact isW.g2 (by assumption) | exact isW.g3 (by assumption) | exact isI.gx (isW.i0 (by assumption)) | exact isI.gc (isW.i0 (by assumption)) | exact isI.gx (isW.i1 (by assumption)) | exact isI.gc (isW.i1 (by assumption)) | exact isI.gx (isW.i2 (by assumption)) | exact isI.gc (isW.i2 (by assumption)) | exact isI.gx (isW.i3 (by assumption)) | exact isI.gc (isW.i3 (by assumption)) | exact isI.gx (isW.i4 (by assumption)) | exact isI.gc (isW.i4 (by assumption)) | exact isI.gx (isW.i5 (by assumption)) | exact isI.gc (isW.i5 (by assumption)) | exact isR.gx (by assumption) | exact isRd.gx (by assumption) | exact isSp.gx (by assumption) | exact isI.gx (isR.i (by assumption)) | exact isI.gx (isRd.i (by assumption)) | exact isI.gc (isRd.i (by assumption)) | exact isI.gx (isSp.i (by assumption)) | exact isW.gx (isR.w (by assumption)) | exact isW.gF (isR.w (by assumption)) | fail "no such object") rfl rfl (Nat.le_of_ble_eq_true rfl) (cb_Faults _ hW_209 hV_209 hdis hsz) (fun v_220 h_220 q_220 => ?_)
  obtain ⟨rfl, hW_220, T_220⟩ := q_220
  refine r_return (pc := 223) dX9_become_223 rfl ?_
  exact ⟨rfl, hW_220, (((((((((hS_5.trans S_1).trans hS_62).trans S_2).trans hS_119).trans S_3).trans hS_176).trans T_187).trans T_198).trans T_209).trans T_220⟩
end mg_96
section mg_97
/-! ===== the class: what a step does ===== -/
abbrev opP (c : Nat → Int) (i : Int) : Prop := inW c 1 60 i ∧ c (304 + 3 * i.toNat) = 0
theorem isR.ofWr {h h' : mH} {r : Nat} {b z : Int} {f c : Nat → Int} {C : Nat → Nat → Int} {nm : Nat → Int64} {g : Nat → Option Nat} {c' : Nat → Int} {C' : Nat → Nat → Int} {nm' : Nat → Int64} {g' : Nat → Option Nat} (k : isR h r b z f c C nm g) (S : Same (wBlk (rA r 1)) h h') (k2 : isW h' (rA r 1) c' C' nm' g') : isR h' r b z f c' C' nm' g' ∧ Same (rBlk r) h h' := ⟨k.ofW S k2, S.mono (fun q hq => w_rBlk hq)⟩
def btG (g : Nat → Option Nat) (t : Nat) : Nat → Option Nat := updO g (2 * t + 1) (g (2 * t))
set_option maxHeartbeats 4000000 in
set_option maxRecDepth 100000 in
theorem cr_beginToEndT {G : mG} {l : Launch} (d : Nat) {h : mH} {r : Nat} {b z : Int} {f : Nat → Int} {c : Nat → Int} {C : Nat → Nat → Int} {nm : Nat → Int64} {g : Nat → Option Nat} (hR : isR h r b z f c C nm g) (hc : ∀ q, InR (c q)) (hz0 : 0 ≤ z ∧ z < 160) {t : Nat} (ht : (t : Int) < c 0) (ht2 : t < 90) : RUNM G l (d + 1) mX3_beginToEnd [.ref r, .int (J (t : Int))] h (fun v h' => v = none ∧ isR h' r b (z + 1) (updI f z.toNat (t : Int)) (updI c (32 + 3 * t) 2) C nm (btG g t) ∧ Same (rBlk r) h h') := by
  refine RUNM.of (by decide +kernel) (Nat.le_of_ble_eq_true rfl) ?_
  have hW := hR.w
  refine r_iload_n (pc := 0) dX3_beginToEnd_0 rfl ?_
  refine rj_bipush (pc := 1) dX3_beginToEnd_1 (by decide +kernel) ?_
  refine rj_icmp_lt (pc := 3) (tgt := 30) dX3_beginToEnd_3 (by decide) (by first | exact b01_r | exact bz_r | omega | (constructor <;> omega) | apply_assumption | (apply atF_r; assumption) | fail "no range") (by first | exact b01_r | exact bz_r | omega | (constructor <;> omega) | apply_assumption | (apply atF_r; assumption) | fail "no range") (fun c_3 => ?_) (fun c_3 => ?_)
  · refine r_aload_n (pc := 30) dX3_beginToEnd_30 rfl (by first | rfl | exact isRefV_rf _) ?_
    refine r_getf (pc := 31) dX3_beginToEnd_31 fX3_12 (by first | assumption | exact isI.gx (by assumption) | exact isI.gc (by assumption) | exact isW.gx (by assumption) | exact isW.gF (by assumption) | exact isW.gT (by assumption) (by omega) | exact isW.gS (by assumption) (by omega) | exact isW.gK (by assumption) (by omega) | exact isW.g1 (by assumption) | exact isW.g2 (by assumption) | exact isW.g3 (by assumption) | exact isI.gx (isW.i0 (by assumption)) | exact isI.gc (isW.i0 (by assumption)) | exact isI.gx (isW.i1 (by assumption)) | exact isI.gc (isW.i1 (by assumption)) | exact isI.gx (isW.i2 (by assumption)) | exact isI.gc (isW.i2 (by assumption)) | exact isI.gx (isW.i3 (by assumption)) | exact isI.gc (isW.i3 (by assumption)) | exact isI.gx (isW.i4 (by assumption)) | exact isI.gc (isW.i4 (by assumption)) | exact isI.gx (isW.i5 (by assumption)) | exact isI.gc (isW.i5 (by assumption)) | exact isR.gx (by assumption) | exact isRd.gx (by assumption) | exact isSp.gx (by assumption) | exact isI.gx (isR.i (by assumption)) | exact isI.gx (isRd.i (by assumption)) | exact isI.gc (isRd.i (by assumption)) | exact isI.gx (isSp.i (by assumption)) | exact isW.gx (isR.w (by assumption)) | exact isW.gF (isR.w (by assumption)) | fail "no such object") (by rfl) ?_
    refine r_iload_n (pc := 34) dX3_beginToEnd_34 rfl ?_
    refine r_callV1 (pc := 35) dX3_beginToEnd_35 qX9_thingAt kX3_110 vX9_thingAt (by first | assumption | exact isI.gx (by assumption) | exact isI.gc (by assumption) | exact isW.gx (by assumption) | exact isW.gF (by assumption) | exact isW.gT (by assumption) (by omega) | exact isW.gS (by assumption) (by omega) | exact isW.gK (by assumption) (by omega) | exact isW.g1 (by assumption) | exact isW.g2 (by assumption) | exact isW.g3 (by assumption) | exact isI.gx (isW.i0 (by assumption)) | exact isI.gc (isW.i0 (by assumption)) | exact isI.gx (isW.i1 (by assumption)) | exact isI.gc (isW.i1 (by assumption)) | exact isI.gx (isW.i2 (by assumption)) | exact isI.gc (isW.i2 (by assumption)) | exact isI.gx (isW.i3 (by assumption)) | exact isI.gc (isW.i3 (by assumption)) | exact isI.gx (isW.i4 (by assumption)) | exact isI.gc (isW.i4 (by assumption)) | exact isI.gx (isW.i5 (by assumption)) | exact isI.gc (isW.i5 (by assumption)) | exact isR.gx (by assumption) | exact isRd.gx (by assumption) | exact isSp.gx (by assumption) | exact isI.gx (isR.i (by assumption)) | exact isI.gx (isRd.i (by assumption)) | exact isI.gc (isRd.i (by assumption)) | exact isI.gx (isSp.i (by assumption)) | exact isW.gx (isR.w (by assumption)) | exact isW.gF (isR.w (by assumption)) | fail "no such object") rfl rfl (Nat.le_of_ble_eq_true rfl) (cw_thingAt _ hR.w hc (i := (t : Int)) ⟨by omega, by omega⟩) (fun v_35 h_35 q_35 => ?_)
    obtain ⟨q1_35, rfl⟩ := q_35
    · obtain rfl := thAt_P (by omega) q1_35
      refine r_astore_n (pc := 38) dX3_beginToEnd_38 (Nat.le_of_ble_eq_true rfl) (by first | rfl | exact isRefV_rf _) ?_
      dsimp only [lsSt, List.set, mLs, mEnt]
      refine r_aload_n (pc := 39) dX3_beginToEnd_39 rfl (by first | rfl | exact isRefV_rf _) ?_
      refine r_ifnull (pc := 40) (tgt := 56) dX3_beginToEnd_40 (by decide) (by first | rfl | exact isRefV_rf _) (fun c_40 => by cases c_40) (fun a_40 c_40 => ?_)
      rw [Int.toNat_natCast]
      refine r_aload_n (pc := 43) dX3_beginToEnd_43 rfl (by first | rfl | exact isRefV_rf _) ?_
      refine rj_iconst (pc := 44) dX3_beginToEnd_44 ?_
      refine rc_putT3 (pc := 45) dX3_beginToEnd_45 fX3_114 (by assumption) (by omega) (fun h_45 hW_45 hS_45 => ?_)
      refine r_aload_n (pc := 48) dX3_beginToEnd_48 rfl (by first | rfl | exact isRefV_rf _) ?_
      refine r_aload_n (pc := 49) dX3_beginToEnd_49 rfl (by first | rfl | exact isRefV_rf _) ?_
      refine r_getf (pc := 50) dX3_beginToEnd_50 fX3_117 (by first | assumption | exact isI.gx (by assumption) | exact isI.gc (by assumption) | exact isW.gx (by assumption) | exact isW.gF (by assumption) | exact isW.gT (by assumption) (by omega) | exact isW.gS (by assumption) (by omega) | exact isW.gK (by assumption) (by omega) | exact isW.g1 (by assumption) | exact isW.g2 (by assumption) | exact isW.g3 (by assumption) | exact isI.gx (isW.i0 (by assumption)) | exact isI.gc (isW.i0 (by assumption)) | exact isI.gx (isW.i1 (by assumption)) | exact isI.gc (isW.i1 (by assumption)) | exact isI.gx (isW.i2 (by assumption)) | exact isI.gc (isW.i2 (by assumption)) | exact isI.gx (isW.i3 (by assumption)) | exact isI.gc (isW.i3 (by assumption)) | exact isI.gx (isW.i4 (by assumption)) | exact isI.gc (isW.i4 (by assumption)) | exact isI.gx (isW.i5 (by assumption)) | exact isI.gc (isW.i5 (by assumption)) | exact isR.gx (by assumption) | exact isRd.gx (by assumption) | exact isSp.gx (by assumption) | exact isI.gx (isR.i (by assumption)) | exact isI.gx (isRd.i (by assumption)) | exact isI.gc (isRd.i (by assumption)) | exact isI.gx (isSp.i (by assumption)) | exact isW.gx (isR.w (by assumption)) | exact isW.gF (isR.w (by assumption)) | fail "no such object") (by rfl) ?_
      refine rc_putT2 (pc := 53) dX3_beginToEnd_53 fX3_121 (by assumption) (by omega) (fun h_53 hW_53 hS_53 => ?_)
      have hR_53 := (hR.ofW hS_45 hW_45).ofW hS_53 hW_53
      refine r_aload_n (pc := 56) dX3_beginToEnd_56 rfl (by first | rfl | exact isRefV_rf _) ?_
      refine r_getf (pc := 57) dX3_beginToEnd_57 fX3_23 (by first | assumption | exact isI.gx (by assumption) | exact isI.gc (by assumption) | exact isW.gx (by assumption) | exact isW.gF (by assumption) | exact isW.gT (by assumption) (by omega) | exact isW.gS (by assumption) (by omega) | exact isW.gK (by assumption) (by omega) | exact isW.g1 (by assumption) | exact isW.g2 (by assumption) | exact isW.g3 (by assumption) | exact isI.gx (isW.i0 (by assumption)) | exact isI.gc (isW.i0 (by assumption)) | exact isI.gx (isW.i1 (by assumption)) | exact isI.gc (isW.i1 (by assumption)) | exact isI.gx (isW.i2 (by assumption)) | exact isI.gc (isW.i2 (by assumption)) | exact isI.gx (isW.i3 (by assumption)) | exact isI.gc (isW.i3 (by assumption)) | exact isI.gx (isW.i4 (by assumption)) | exact isI.gc (isW.i4 (by assumption)) | exact isI.gx (isW.i5 (by assumption)) | exact isI.gc (isW.i5 (by assumption)) | exact isR.gx (by assumption) | exact isRd.gx (by assumption) | exact isSp.gx (by assumption) | exact isI.gx (isR.i (by assumption)) | exact isI.gx (isRd.i (by assumption)) | exact isI.gc (isRd.i (by assumption)) | exact isI.gx (isSp.i (by assumption)) | exact isW.gx (isR.w (by assumption)) | exact isW.gF (isR.w (by assumption)) | fail "no such object") (by rfl) ?_
      refine r_iload_n (pc := 60) dX3_beginToEnd_60 rfl ?_
      refine r_callV1 (pc := 61) dX3_beginToEnd_61 qX1_append kX3_84 vX1_append (by first | assumption | exact isI.gx (by assumption) | exact isI.gc (by assumption) | exact isW.gx (by assumption) | exact isW.gF (by assumption) | exact isW.gT (by assumption) (by omega) | exact isW.gS (by assumption) (by omega) | exact isW.gK (by assumption) (by omega) | exact isW.g1 (by assumption) | exact isW.g2 (by assumption) | exact isW.g3 (by assumption) | exact isI.gx (isW.i0 (by assumption)) | exact isI.gc (isW.i0 (by assumption)) | exact isI.gx (isW.i1 (by assumption)) | exact isI.gc (isW.i1 (by assumption)) | exact isI.gx (isW.i2 (by assumption)) | exact isI.gc (isW.i2 (by assumption)) | exact isI.gx (isW.i3 (by assumption)) | exact isI.gc (isW.i3 (by assumption)) | exact isI.gx (isW.i4 (by assumption)) | exact isI.gc (isW.i4 (by assumption)) | exact isI.gx (isW.i5 (by assumption)) | exact isI.gc (isW.i5 (by assumption)) | exact isR.gx (by assumption) | exact isRd.gx (by assumption) | exact isSp.gx (by assumption) | exact isI.gx (isR.i (by assumption)) | exact isI.gx (isRd.i (by assumption)) | exact isI.gc (isRd.i (by assumption)) | exact isI.gx (isSp.i (by assumption)) | exact isW.gx (isR.w (by assumption)) | exact isW.gF (isR.w (by assumption)) | fail "no such object") rfl rfl (Nat.le_of_ble_eq_true rfl) (ci_append _ hR_53.i (by decide) ⟨by omega, by omega⟩ (t : Int)) (fun v_61 h_61 q_61 => ?_)
      obtain ⟨rfl, I_61, S_61⟩ := q_61
      refine r_pop (pc := 64) dX3_beginToEnd_64 (by first | rfl | (cases ‹Option Nat› <;> rfl)) ?_
      refine r_return (pc := 65) dX3_beginToEnd_65 rfl ?_
      rw [if_pos (by omega), if_pos (by omega)] at I_61
      exact ⟨rfl, hR_53.ofI S_61 I_61, ((hS_45.trans hS_53).mono (fun q hq => w_rBlk hq)).trans (S_61.mono (fun q hq => i_rBlk hq))⟩
  · exfalso
    first | omega | exact absurd trivial ‹¬ True›
theorem hnL_r {c : Nat → Int} {nm : Nat → Int64} {y : Int64} : ∀ n t : Nat, (hnL c nm y n t = -5 ∧ ∀ q, t ≤ q → q < t + n → ¬ (c (32 + 3 * q) = 0 ∧ nm q = y)) ∨ (∃ q : Nat, hnL c nm y n t = q ∧ t ≤ q ∧ q < t + n ∧ c (32 + 3 * q) = 0 ∧ nm q = y)
  | 0, t => Or.inl ⟨rfl, fun q a b => by omega⟩
  | n + 1, t => by
    unfold hnL
    by_cases k : c (32 + 3 * t) = 0 ∧ nm t = y
    · rw [if_pos k]; exact Or.inr ⟨t, rfl, by omega, by omega, k⟩
    · rw [if_neg k]
      rcases hnL_r n (t + 1) with ⟨e, a⟩ | ⟨q, e, a, b, d⟩
      · exact Or.inl ⟨e, fun q x z => if hq : q = t then hq ▸ k else a q (by omega) (by omega)⟩
      · exact Or.inr ⟨q, e, by omega, by omega, d⟩
theorem hnL_R {c : Nat → Int} {nm : Nat → Int64} {y : Int64} {N : Nat} (h : N ≤ 90) : InR (hnL c nm y N 0) := by
  rcases hnL_r (c := c) (nm := nm) (y := y) N 0 with ⟨e, -⟩ | ⟨q, e, -, b, -⟩ <;> rw [e]
  · decide
  · exact ⟨by omega, by omega⟩
set_option maxHeartbeats 4000000 in
set_option maxRecDepth 100000 in
theorem cr_takeInto {G : mG} {l : Launch} (d : Nat) {h : mH} {r : Nat} {b z : Int} {f : Nat → Int} {c : Nat → Int} {C : Nat → Nat → Int} {nm : Nat → Int64} {g : Nat → Option Nat} (hR : isR h r b z f c C nm g) (hc : ∀ q, InR (c q)) {N : Nat} (hN : c 0 = (N : Int)) (hcap : N ≤ 90) {Z : Nat} (hZ : c 10 = (Z : Int)) (hcapZ : Z < 150) {s : Nat} {kd num vl : Int} {y : Int64} {inn nx : Option Nat} (hs : hGet h s = some (stO kd num vl y inn nx)) (hsr : ¬ rBlk r s) {i : Int} (hi : InR i) : RUNM G l (d + 3) mX3_takeInto [.ref r, .int (J i), .ref s] h (fun v h' => (¬ opP c i ∧ v = some (.int (J 101)) ∧ h' = h) ∨ (opP c i ∧ 0 ≤ hnL c nm y N 0 ∧ v = some (.int (J 102)) ∧ h' = h) ∨ (opP c i ∧ hnL c nm y N 0 < 0 ∧ 90 ≤ N ∧ v = some (.int (J 103)) ∧ h' = h) ∨ (opP c i ∧ hnL c nm y N 0 < 0 ∧ N < 90 ∧ v = some (.int (J 0)) ∧ isR h' r b z f (adE (adC c N i) Z) (updC C 2 (updI (C 2) Z (N : Int))) (updL nm N y) (updO g (2 * N) inn) ∧ Same (rBlk r) h h')) := by
  refine RUNM.of (by decide +kernel) (Nat.le_of_ble_eq_true rfl) ?_
  have rh := hnL_R (c := c) (nm := nm) (y := y) hcap
  refine r_aload_n (pc := 0) dX3_takeInto_0 rfl (by first | rfl | exact isRefV_rf _) ?_
  refine r_getf (pc := 1) dX3_takeInto_1 fX3_12 (by first | assumption | exact isI.gx (by assumption) | exact isI.gc (by assumption) | exact isW.gx (by assumption) | exact isW.gF (by assumption) | exact isW.gT (by assumption) (by omega) | exact isW.gS (by assumption) (by omega) | exact isW.gK (by assumption) (by omega) | exact isW.g1 (by assumption) | exact isW.g2 (by assumption) | exact isW.g3 (by assumption) | exact isI.gx (isW.i0 (by assumption)) | exact isI.gc (isW.i0 (by assumption)) | exact isI.gx (isW.i1 (by assumption)) | exact isI.gc (isW.i1 (by assumption)) | exact isI.gx (isW.i2 (by assumption)) | exact isI.gc (isW.i2 (by assumption)) | exact isI.gx (isW.i3 (by assumption)) | exact isI.gc (isW.i3 (by assumption)) | exact isI.gx (isW.i4 (by assumption)) | exact isI.gc (isW.i4 (by assumption)) | exact isI.gx (isW.i5 (by assumption)) | exact isI.gc (isW.i5 (by assumption)) | exact isR.gx (by assumption) | exact isRd.gx (by assumption) | exact isSp.gx (by assumption) | exact isI.gx (isR.i (by assumption)) | exact isI.gx (isRd.i (by assumption)) | exact isI.gc (isRd.i (by assumption)) | exact isI.gx (isSp.i (by assumption)) | exact isW.gx (isR.w (by assumption)) | exact isW.gF (isR.w (by assumption)) | fail "no such object") (by rfl) ?_
  refine r_iload_n (pc := 4) dX3_takeInto_4 rfl ?_
  refine r_callV1 (pc := 5) dX3_takeInto_5 qX9_isOpen kX3_77 vX9_isOpen (by first | assumption | exact isI.gx (by assumption) | exact isI.gc (by assumption) | exact isW.gx (by assumption) | exact isW.gF (by assumption) | exact isW.gT (by assumption) (by omega) | exact isW.gS (by assumption) (by omega) | exact isW.gK (by assumption) (by omega) | exact isW.g1 (by assumption) | exact isW.g2 (by assumption) | exact isW.g3 (by assumption) | exact isI.gx (isW.i0 (by assumption)) | exact isI.gc (isW.i0 (by assumption)) | exact isI.gx (isW.i1 (by assumption)) | exact isI.gc (isW.i1 (by assumption)) | exact isI.gx (isW.i2 (by assumption)) | exact isI.gc (isW.i2 (by assumption)) | exact isI.gx (isW.i3 (by assumption)) | exact isI.gc (isW.i3 (by assumption)) | exact isI.gx (isW.i4 (by assumption)) | exact isI.gc (isW.i4 (by assumption)) | exact isI.gx (isW.i5 (by assumption)) | exact isI.gc (isW.i5 (by assumption)) | exact isR.gx (by assumption) | exact isRd.gx (by assumption) | exact isSp.gx (by assumption) | exact isI.gx (isR.i (by assumption)) | exact isI.gx (isRd.i (by assumption)) | exact isI.gc (isRd.i (by assumption)) | exact isI.gx (isSp.i (by assumption)) | exact isW.gx (isR.w (by assumption)) | exact isW.gF (isR.w (by assumption)) | fail "no such object") rfl rfl (Nat.le_of_ble_eq_true rfl) (cw_isOpen _ hR.w hc hi) (fun v_5 h_5 q_5 => ?_)
  obtain ⟨rfl, rfl⟩ := q_5
  refine rj_if_ne (pc := 8) (tgt := 14) dX3_takeInto_8 (by decide) (by first | exact b01_r | exact bz_r | omega | (constructor <;> omega) | apply_assumption | (apply atF_r; assumption) | fail "no range") (fun c_8 => ?_) (fun c_8 => ?_)
  · try simp only [b01_0, bz_0, Classical.not_not] at c_8
    refine r_aload_n (pc := 14) dX3_takeInto_14 rfl (by first | rfl | exact isRefV_rf _) ?_
    refine r_getf (pc := 15) dX3_takeInto_15 fX3_12 (by first | assumption | exact isI.gx (by assumption) | exact isI.gc (by assumption) | exact isW.gx (by assumption) | exact isW.gF (by assumption) | exact isW.gT (by assumption) (by omega) | exact isW.gS (by assumption) (by omega) | exact isW.gK (by assumption) (by omega) | exact isW.g1 (by assumption) | exact isW.g2 (by assumption) | exact isW.g3 (by assumption) | exact isI.gx (isW.i0 (by assumption)) | exact isI.gc (isW.i0 (by assumption)) | exact isI.gx (isW.i1 (by assumption)) | exact isI.gc (isW.i1 (by assumption)) | exact isI.gx (isW.i2 (by assumption)) | exact isI.gc (isW.i2 (by assumption)) | exact isI.gx (isW.i3 (by assumption)) | exact isI.gc (isW.i3 (by assumption)) | exact isI.gx (isW.i4 (by assumption)) | exact isI.gc (isW.i4 (by assumption)) | exact isI.gx (isW.i5 (by assumption)) | exact isI.gc (isW.i5 (by assumption)) | exact isR.gx (by assumption) | exact isRd.gx (by assumption) | exact isSp.gx (by assumption) | exact isI.gx (isR.i (by assumption)) | exact isI.gx (isRd.i (by assumption)) | exact isI.gc (isRd.i (by assumption)) | exact isI.gx (isSp.i (by assumption)) | exact isW.gx (isR.w (by assumption)) | exact isW.gF (isR.w (by assumption)) | fail "no such object") (by rfl) ?_
    refine r_aload_n (pc := 18) dX3_takeInto_18 rfl (by first | rfl | exact isRefV_rf _) ?_
    have s_19 := hs
    unfold stO at s_19
    refine r_getf (pc := 19) dX3_takeInto_19 fX3_197 s_19 (by rfl) ?_
    refine r_callV1 (pc := 22) dX3_takeInto_22 qX9_heldWithName kX3_218 vX9_heldWithName (by first | assumption | exact isI.gx (by assumption) | exact isI.gc (by assumption) | exact isW.gx (by assumption) | exact isW.gF (by assumption) | exact isW.gT (by assumption) (by omega) | exact isW.gS (by assumption) (by omega) | exact isW.gK (by assumption) (by omega) | exact isW.g1 (by assumption) | exact isW.g2 (by assumption) | exact isW.g3 (by assumption) | exact isI.gx (isW.i0 (by assumption)) | exact isI.gc (isW.i0 (by assumption)) | exact isI.gx (isW.i1 (by assumption)) | exact isI.gc (isW.i1 (by assumption)) | exact isI.gx (isW.i2 (by assumption)) | exact isI.gc (isW.i2 (by assumption)) | exact isI.gx (isW.i3 (by assumption)) | exact isI.gc (isW.i3 (by assumption)) | exact isI.gx (isW.i4 (by assumption)) | exact isI.gc (isW.i4 (by assumption)) | exact isI.gx (isW.i5 (by assumption)) | exact isI.gc (isW.i5 (by assumption)) | exact isR.gx (by assumption) | exact isRd.gx (by assumption) | exact isSp.gx (by assumption) | exact isI.gx (isR.i (by assumption)) | exact isI.gx (isRd.i (by assumption)) | exact isI.gc (isRd.i (by assumption)) | exact isI.gx (isSp.i (by assumption)) | exact isW.gx (isR.w (by assumption)) | exact isW.gF (isR.w (by assumption)) | fail "no such object") rfl rfl (Nat.le_of_ble_eq_true rfl) (cq_heldWithName _ hR.w hc hN hcap (y := y)) (fun v_22 h_22 q_22 => ?_)
    obtain ⟨rfl, rfl⟩ := q_22
    refine rj_if_lt (pc := 25) (tgt := 31) dX3_takeInto_25 (by decide) (by first | exact b01_r | exact bz_r | omega | (constructor <;> omega) | apply_assumption | (apply atF_r; assumption) | fail "no range") (fun c_25 => ?_) (fun c_25 => ?_)
    · refine r_aload_n (pc := 31) dX3_takeInto_31 rfl (by first | rfl | exact isRefV_rf _) ?_
      refine r_getf (pc := 32) dX3_takeInto_32 fX3_12 (by first | assumption | exact isI.gx (by assumption) | exact isI.gc (by assumption) | exact isW.gx (by assumption) | exact isW.gF (by assumption) | exact isW.gT (by assumption) (by omega) | exact isW.gS (by assumption) (by omega) | exact isW.gK (by assumption) (by omega) | exact isW.g1 (by assumption) | exact isW.g2 (by assumption) | exact isW.g3 (by assumption) | exact isI.gx (isW.i0 (by assumption)) | exact isI.gc (isW.i0 (by assumption)) | exact isI.gx (isW.i1 (by assumption)) | exact isI.gc (isW.i1 (by assumption)) | exact isI.gx (isW.i2 (by assumption)) | exact isI.gc (isW.i2 (by assumption)) | exact isI.gx (isW.i3 (by assumption)) | exact isI.gc (isW.i3 (by assumption)) | exact isI.gx (isW.i4 (by assumption)) | exact isI.gc (isW.i4 (by assumption)) | exact isI.gx (isW.i5 (by assumption)) | exact isI.gc (isW.i5 (by assumption)) | exact isR.gx (by assumption) | exact isRd.gx (by assumption) | exact isSp.gx (by assumption) | exact isI.gx (isR.i (by assumption)) | exact isI.gx (isRd.i (by assumption)) | exact isI.gc (isRd.i (by assumption)) | exact isI.gx (isSp.i (by assumption)) | exact isW.gx (isR.w (by assumption)) | exact isW.gF (isR.w (by assumption)) | fail "no such object") (by rfl) ?_
      refine r_callV0 (pc := 35) dX3_takeInto_35 qX9_thingsAreFull kX3_221 vX9_thingsAreFull (by first | assumption | exact isI.gx (by assumption) | exact isI.gc (by assumption) | exact isW.gx (by assumption) | exact isW.gF (by assumption) | exact isW.gT (by assumption) (by omega) | exact isW.gS (by assumption) (by omega) | exact isW.gK (by assumption) (by omega) | exact isW.g1 (by assumption) | exact isW.g2 (by assumption) | exact isW.g3 (by assumption) | exact isI.gx (isW.i0 (by assumption)) | exact isI.gc (isW.i0 (by assumption)) | exact isI.gx (isW.i1 (by assumption)) | exact isI.gc (isW.i1 (by assumption)) | exact isI.gx (isW.i2 (by assumption)) | exact isI.gc (isW.i2 (by assumption)) | exact isI.gx (isW.i3 (by assumption)) | exact isI.gc (isW.i3 (by assumption)) | exact isI.gx (isW.i4 (by assumption)) | exact isI.gc (isW.i4 (by assumption)) | exact isI.gx (isW.i5 (by assumption)) | exact isI.gc (isW.i5 (by assumption)) | exact isR.gx (by assumption) | exact isRd.gx (by assumption) | exact isSp.gx (by assumption) | exact isI.gx (isR.i (by assumption)) | exact isI.gx (isRd.i (by assumption)) | exact isI.gc (isRd.i (by assumption)) | exact isI.gx (isSp.i (by assumption)) | exact isW.gx (isR.w (by assumption)) | exact isW.gF (isR.w (by assumption)) | fail "no such object") rfl rfl (Nat.le_of_ble_eq_true rfl) (cw_thingsAreFull _ hR.w hc) (fun v_35 h_35 q_35 => ?_)
      obtain ⟨rfl, rfl⟩ := q_35
      refine rj_if_eq (pc := 38) (tgt := 44) dX3_takeInto_38 (by decide) (by first | exact b01_r | exact bz_r | omega | (constructor <;> omega) | apply_assumption | (apply atF_r; assumption) | fail "no range") (fun c_38 => ?_) (fun c_38 => ?_)
      · try simp only [b01_0, bz_0, Classical.not_not] at c_38
        refine r_aload_n (pc := 44) dX3_takeInto_44 rfl (by first | rfl | exact isRefV_rf _) ?_
        refine r_getf (pc := 45) dX3_takeInto_45 fX3_12 (by first | assumption | exact isI.gx (by assumption) | exact isI.gc (by assumption) | exact isW.gx (by assumption) | exact isW.gF (by assumption) | exact isW.gT (by assumption) (by omega) | exact isW.gS (by assumption) (by omega) | exact isW.gK (by assumption) (by omega) | exact isW.g1 (by assumption) | exact isW.g2 (by assumption) | exact isW.g3 (by assumption) | exact isI.gx (isW.i0 (by assumption)) | exact isI.gc (isW.i0 (by assumption)) | exact isI.gx (isW.i1 (by assumption)) | exact isI.gc (isW.i1 (by assumption)) | exact isI.gx (isW.i2 (by assumption)) | exact isI.gc (isW.i2 (by assumption)) | exact isI.gx (isW.i3 (by assumption)) | exact isI.gc (isW.i3 (by assumption)) | exact isI.gx (isW.i4 (by assumption)) | exact isI.gc (isW.i4 (by assumption)) | exact isI.gx (isW.i5 (by assumption)) | exact isI.gc (isW.i5 (by assumption)) | exact isR.gx (by assumption) | exact isRd.gx (by assumption) | exact isSp.gx (by assumption) | exact isI.gx (isR.i (by assumption)) | exact isI.gx (isRd.i (by assumption)) | exact isI.gc (isRd.i (by assumption)) | exact isI.gx (isSp.i (by assumption)) | exact isW.gx (isR.w (by assumption)) | exact isW.gF (isR.w (by assumption)) | fail "no such object") (by rfl) ?_
        refine r_aload_n (pc := 48) dX3_takeInto_48 rfl (by first | rfl | exact isRefV_rf _) ?_
        refine r_iload_n (pc := 49) dX3_takeInto_49 rfl ?_
        refine r_callV2 (pc := 50) dX3_takeInto_50 qX9_addThing kX3_225 vX9_addThing (by first | assumption | exact isI.gx (by assumption) | exact isI.gc (by assumption) | exact isW.gx (by assumption) | exact isW.gF (by assumption) | exact isW.gT (by assumption) (by omega) | exact isW.gS (by assumption) (by omega) | exact isW.gK (by assumption) (by omega) | exact isW.g1 (by assumption) | exact isW.g2 (by assumption) | exact isW.g3 (by assumption) | exact isI.gx (isW.i0 (by assumption)) | exact isI.gc (isW.i0 (by assumption)) | exact isI.gx (isW.i1 (by assumption)) | exact isI.gc (isW.i1 (by assumption)) | exact isI.gx (isW.i2 (by assumption)) | exact isI.gc (isW.i2 (by assumption)) | exact isI.gx (isW.i3 (by assumption)) | exact isI.gc (isW.i3 (by assumption)) | exact isI.gx (isW.i4 (by assumption)) | exact isI.gc (isW.i4 (by assumption)) | exact isI.gx (isW.i5 (by assumption)) | exact isI.gc (isW.i5 (by assumption)) | exact isR.gx (by assumption) | exact isRd.gx (by assumption) | exact isSp.gx (by assumption) | exact isI.gx (isR.i (by assumption)) | exact isI.gx (isRd.i (by assumption)) | exact isI.gc (isRd.i (by assumption)) | exact isI.gx (isSp.i (by assumption)) | exact isW.gx (isR.w (by assumption)) | exact isW.gF (isR.w (by assumption)) | fail "no such object") rfl rfl (Nat.le_of_ble_eq_true rfl) (cq_addThing _ hR.w hc hN (by omega) hZ hcapZ hs (fun q => hsr (w_rBlk q)) hi) (fun v_50 h_50 q_50 => ?_)
        obtain ⟨rfl, hW_50, S_50⟩ := q_50
        have hR_50 := hR.ofWr S_50 hW_50
        refine r_pop (pc := 53) dX3_takeInto_53 (by first | rfl | (cases ‹Option Nat› <;> rfl)) ?_
        refine rj_iconst (pc := 54) dX3_takeInto_54 ?_
        refine r_ireturn (pc := 55) .int dX3_takeInto_55 rfl (by first | rfl | assumption) ?_
        first | exact Or.inl ⟨c_8, rfl, rfl⟩ | exact Or.inr (Or.inl ⟨c_8, by omega, rfl, rfl⟩) | exact Or.inr (Or.inr (Or.inl ⟨c_8, by omega, by omega, rfl, rfl⟩)) | exact Or.inr (Or.inr (Or.inr ⟨c_8, by omega, by omega, rfl, hR_50.1, hR_50.2⟩))
      · try simp only [b01_0, bz_0, Classical.not_not] at c_38
        refine rj_bipush (pc := 41) dX3_takeInto_41 (by decide +kernel) ?_
        refine r_ireturn (pc := 43) .int dX3_takeInto_43 rfl (by first | rfl | assumption) ?_
        first | exact Or.inl ⟨c_8, rfl, rfl⟩ | exact Or.inr (Or.inl ⟨c_8, by omega, rfl, rfl⟩) | exact Or.inr (Or.inr (Or.inl ⟨c_8, by omega, by omega, rfl, rfl⟩)) | exact Or.inr (Or.inr (Or.inr ⟨c_8, by omega, by omega, rfl, hR_50.1, hR_50.2⟩))
    · refine rj_bipush (pc := 28) dX3_takeInto_28 (by decide +kernel) ?_
      refine r_ireturn (pc := 30) .int dX3_takeInto_30 rfl (by first | rfl | assumption) ?_
      first | exact Or.inl ⟨c_8, rfl, rfl⟩ | exact Or.inr (Or.inl ⟨c_8, by omega, rfl, rfl⟩) | exact Or.inr (Or.inr (Or.inl ⟨c_8, by omega, by omega, rfl, rfl⟩)) | exact Or.inr (Or.inr (Or.inr ⟨c_8, by omega, by omega, rfl, hR_50.1, hR_50.2⟩))
  · try simp only [b01_0, bz_0, Classical.not_not] at c_8
    refine rj_bipush (pc := 11) dX3_takeInto_11 (by decide +kernel) ?_
    refine r_ireturn (pc := 13) .int dX3_takeInto_13 rfl (by first | rfl | assumption) ?_
    first | exact Or.inl ⟨c_8, rfl, rfl⟩ | exact Or.inr (Or.inl ⟨c_8, by omega, rfl, rfl⟩) | exact Or.inr (Or.inr (Or.inl ⟨c_8, by omega, by omega, rfl, rfl⟩)) | exact Or.inr (Or.inr (Or.inr ⟨c_8, by omega, by omega, rfl, hR_50.1, hR_50.2⟩))
end mg_97
section mg_98
/-! ===== the class: what a step does, by what it closes, moves, cancels, opens, shuts ===== -/
set_option maxHeartbeats 4000000 in
set_option maxRecDepth 100000 in
theorem cr_closeNamed {G : mG} {l : Launch} (d : Nat) {h : mH} {r : Nat} {b z : Int} {f : Nat → Int} {c : Nat → Int} {C : Nat → Nat → Int} {nm : Nat → Int64} {g : Nat → Option Nat} (hR : isR h r b z f c C nm g) (hc : ∀ q, InR (c q)) {N : Nat} (hN : c 0 = (N : Int)) (hcap : N ≤ 90) (hz0 : 0 ≤ z ∧ z < 160) {y : Int64} : RUNM G l (d + 2) mX3_closeNamed [.ref r, .long y] h (fun v h' => (hnL c nm y N 0 < 0 ∧ v = some (.int (J 104)) ∧ h' = h) ∨ (∃ q : Nat, q < N ∧ hnL c nm y N 0 = q ∧ c (32 + 3 * q) = 0 ∧ nm q = y ∧ v = some (.int (J 0)) ∧ isR h' r b (z + 1) (updI f z.toNat (q : Int)) (updI c (32 + 3 * q) 2) C nm (btG g q) ∧ Same (rBlk r) h h')) := by
  refine RUNM.of (by decide +kernel) (Nat.le_of_ble_eq_true rfl) ?_
  have rh := hnL_R (c := c) (nm := nm) (y := y) hcap
  refine r_aload_n (pc := 0) dX3_closeNamed_0 rfl (by first | rfl | exact isRefV_rf _) ?_
  refine r_getf (pc := 1) dX3_closeNamed_1 fX3_12 (by first | assumption | exact isI.gx (by assumption) | exact isI.gc (by assumption) | exact isW.gx (by assumption) | exact isW.gF (by assumption) | exact isW.gT (by assumption) (by omega) | exact isW.gS (by assumption) (by omega) | exact isW.gK (by assumption) (by omega) | exact isW.g1 (by assumption) | exact isW.g2 (by assumption) | exact isW.g3 (by assumption) | exact isI.gx (isW.i0 (by assumption)) | exact isI.gc (isW.i0 (by assumption)) | exact isI.gx (isW.i1 (by assumption)) | exact isI.gc (isW.i1 (by assumption)) | exact isI.gx (isW.i2 (by assumption)) | exact isI.gc (isW.i2 (by assumption)) | exact isI.gx (isW.i3 (by assumption)) | exact isI.gc (isW.i3 (by assumption)) | exact isI.gx (isW.i4 (by assumption)) | exact isI.gc (isW.i4 (by assumption)) | exact isI.gx (isW.i5 (by assumption)) | exact isI.gc (isW.i5 (by assumption)) | exact isR.gx (by assumption) | exact isRd.gx (by assumption) | exact isSp.gx (by assumption) | exact isI.gx (isR.i (by assumption)) | exact isI.gx (isRd.i (by assumption)) | exact isI.gc (isRd.i (by assumption)) | exact isI.gx (isSp.i (by assumption)) | exact isW.gx (isR.w (by assumption)) | exact isW.gF (isR.w (by assumption)) | fail "no such object") (by rfl) ?_
  refine r_lload_n (pc := 4) dX3_closeNamed_4 rfl ?_
  refine r_callV1 (pc := 5) dX3_closeNamed_5 qX9_heldWithName kX3_218 vX9_heldWithName (by first | assumption | exact isI.gx (by assumption) | exact isI.gc (by assumption) | exact isW.gx (by assumption) | exact isW.gF (by assumption) | exact isW.gT (by assumption) (by omega) | exact isW.gS (by assumption) (by omega) | exact isW.gK (by assumption) (by omega) | exact isW.g1 (by assumption) | exact isW.g2 (by assumption) | exact isW.g3 (by assumption) | exact isI.gx (isW.i0 (by assumption)) | exact isI.gc (isW.i0 (by assumption)) | exact isI.gx (isW.i1 (by assumption)) | exact isI.gc (isW.i1 (by assumption)) | exact isI.gx (isW.i2 (by assumption)) | exact isI.gc (isW.i2 (by assumption)) | exact isI.gx (isW.i3 (by assumption)) | exact isI.gc (isW.i3 (by assumption)) | exact isI.gx (isW.i4 (by assumption)) | exact isI.gc (isW.i4 (by assumption)) | exact isI.gx (isW.i5 (by assumption)) | exact isI.gc (isW.i5 (by assumption)) | exact isR.gx (by assumption) | exact isRd.gx (by assumption) | exact isSp.gx (by assumption) | exact isI.gx (isR.i (by assumption)) | exact isI.gx (isRd.i (by assumption)) | exact isI.gc (isRd.i (by assumption)) | exact isI.gx (isSp.i (by assumption)) | exact isW.gx (isR.w (by assumption)) | exact isW.gF (isR.w (by assumption)) | fail "no such object") rfl rfl (Nat.le_of_ble_eq_true rfl) (cq_heldWithName _ hR.w hc hN hcap (y := y)) (fun v_5 h_5 q_5 => ?_)
  obtain ⟨rfl, rfl⟩ := q_5
  refine r_istore_n (pc := 8) dX3_closeNamed_8 (Nat.le_of_ble_eq_true rfl) ?_
  dsimp only [lsSt, List.set, mLs, mEnt]
  refine r_iload_n (pc := 9) dX3_closeNamed_9 rfl ?_
  refine rj_if_ge (pc := 10) (tgt := 16) dX3_closeNamed_10 (by decide) (by first | exact b01_r | exact bz_r | omega | (constructor <;> omega) | apply_assumption | (apply atF_r; assumption) | fail "no range") (fun c_10 => ?_) (fun c_10 => ?_)
  · refine r_aload_n (pc := 16) dX3_closeNamed_16 rfl (by first | rfl | exact isRefV_rf _) ?_
    refine r_iload_n (pc := 17) dX3_closeNamed_17 rfl ?_
    rcases hnL_r (c := c) (nm := nm) (y := y) N 0 with ⟨e, -⟩ | ⟨q, e, -, qb, qh, qn⟩
    · exfalso; omega
    rw [e]
    refine r_callV1 (pc := 18) dX3_closeNamed_18 qX3_beginToEnd kX3_40 vX3_beginToEnd (by first | assumption | exact isI.gx (by assumption) | exact isI.gc (by assumption) | exact isW.gx (by assumption) | exact isW.gF (by assumption) | exact isW.gT (by assumption) (by omega) | exact isW.gS (by assumption) (by omega) | exact isW.gK (by assumption) (by omega) | exact isW.g1 (by assumption) | exact isW.g2 (by assumption) | exact isW.g3 (by assumption) | exact isI.gx (isW.i0 (by assumption)) | exact isI.gc (isW.i0 (by assumption)) | exact isI.gx (isW.i1 (by assumption)) | exact isI.gc (isW.i1 (by assumption)) | exact isI.gx (isW.i2 (by assumption)) | exact isI.gc (isW.i2 (by assumption)) | exact isI.gx (isW.i3 (by assumption)) | exact isI.gc (isW.i3 (by assumption)) | exact isI.gx (isW.i4 (by assumption)) | exact isI.gc (isW.i4 (by assumption)) | exact isI.gx (isW.i5 (by assumption)) | exact isI.gc (isW.i5 (by assumption)) | exact isR.gx (by assumption) | exact isRd.gx (by assumption) | exact isSp.gx (by assumption) | exact isI.gx (isR.i (by assumption)) | exact isI.gx (isRd.i (by assumption)) | exact isI.gc (isRd.i (by assumption)) | exact isI.gx (isSp.i (by assumption)) | exact isW.gx (isR.w (by assumption)) | exact isW.gF (isR.w (by assumption)) | fail "no such object") rfl rfl (Nat.le_of_ble_eq_true rfl) (cr_beginToEndT _ hR hc ⟨by omega, by omega⟩ (t := q) (by omega) (by omega)) (fun v_18 h_18 q_18 => ?_)
    obtain ⟨rfl, hR_18, S_18⟩ := q_18
    refine rj_iconst (pc := 21) dX3_closeNamed_21 ?_
    refine r_ireturn (pc := 22) .int dX3_closeNamed_22 rfl (by first | rfl | assumption) ?_
    exact Or.inr ⟨q, by omega, rfl, qh, qn, rfl, hR_18, S_18⟩
  · refine rj_bipush (pc := 13) dX3_closeNamed_13 (by decide +kernel) ?_
    refine r_ireturn (pc := 15) .int dX3_closeNamed_15 rfl (by first | rfl | assumption) ?_
    exact Or.inl ⟨by omega, rfl, rfl⟩
set_option maxHeartbeats 4000000 in
set_option maxRecDepth 100000 in
theorem cr_moveNamed {G : mG} {l : Launch} (d : Nat) {h : mH} {r : Nat} {b z : Int} {f : Nat → Int} {c : Nat → Int} {C : Nat → Nat → Int} {nm : Nat → Int64} {g : Nat → Option Nat} (hR : isR h r b z f c C nm g) (hc : ∀ q, InR (c q)) {N : Nat} (hN : c 0 = (N : Int)) (hcap : N ≤ 90) {Z : Nat} (hZ : c 10 = (Z : Int)) (hcapZ : Z < 150) (hC : ∀ q, InR (C 2 q)) {y : Int64} {i : Int} (hi : InR i) : RUNM G l (d + 2) mX3_moveNamed [.ref r, .long y, .int (J i)] h (fun v h' => (hnL c nm y N 0 < 0 ∧ v = some (.int (J 104)) ∧ h' = h) ∨ (0 ≤ hnL c nm y N 0 ∧ ¬ opP c i ∧ v = some (.int (J 105)) ∧ h' = h) ∨ (∃ q : Nat, q < N ∧ hnL c nm y N 0 = q ∧ c (32 + 3 * q) = 0 ∧ nm q = y ∧ opP c i ∧ v = some (.int (J 0)) ∧ isR h' r b z f (mvC c q i (cnt (notB (q : Int) (C 2)) Z)) (mvD C Z q) nm g ∧ Same (rBlk r) h h')) := by
  refine RUNM.of (by decide +kernel) (Nat.le_of_ble_eq_true rfl) ?_
  have rh := hnL_R (c := c) (nm := nm) (y := y) hcap
  refine r_aload_n (pc := 0) dX3_moveNamed_0 rfl (by first | rfl | exact isRefV_rf _) ?_
  refine r_getf (pc := 1) dX3_moveNamed_1 fX3_12 (by first | assumption | exact isI.gx (by assumption) | exact isI.gc (by assumption) | exact isW.gx (by assumption) | exact isW.gF (by assumption) | exact isW.gT (by assumption) (by omega) | exact isW.gS (by assumption) (by omega) | exact isW.gK (by assumption) (by omega) | exact isW.g1 (by assumption) | exact isW.g2 (by assumption) | exact isW.g3 (by assumption) | exact isI.gx (isW.i0 (by assumption)) | exact isI.gc (isW.i0 (by assumption)) | exact isI.gx (isW.i1 (by assumption)) | exact isI.gc (isW.i1 (by assumption)) | exact isI.gx (isW.i2 (by assumption)) | exact isI.gc (isW.i2 (by assumption)) | exact isI.gx (isW.i3 (by assumption)) | exact isI.gc (isW.i3 (by assumption)) | exact isI.gx (isW.i4 (by assumption)) | exact isI.gc (isW.i4 (by assumption)) | exact isI.gx (isW.i5 (by assumption)) | exact isI.gc (isW.i5 (by assumption)) | exact isR.gx (by assumption) | exact isRd.gx (by assumption) | exact isSp.gx (by assumption) | exact isI.gx (isR.i (by assumption)) | exact isI.gx (isRd.i (by assumption)) | exact isI.gc (isRd.i (by assumption)) | exact isI.gx (isSp.i (by assumption)) | exact isW.gx (isR.w (by assumption)) | exact isW.gF (isR.w (by assumption)) | fail "no such object") (by rfl) ?_
  refine r_lload_n (pc := 4) dX3_moveNamed_4 rfl ?_
  refine r_callV1 (pc := 5) dX3_moveNamed_5 qX9_heldWithName kX3_218 vX9_heldWithName (by first | assumption | exact isI.gx (by assumption) | exact isI.gc (by assumption) | exact isW.gx (by assumption) | exact isW.gF (by assumption) | exact isW.gT (by assumption) (by omega) | exact isW.gS (by assumption) (by omega) | exact isW.gK (by assumption) (by omega) | exact isW.g1 (by assumption) | exact isW.g2 (by assumption) | exact isW.g3 (by assumption) | exact isI.gx (isW.i0 (by assumption)) | exact isI.gc (isW.i0 (by assumption)) | exact isI.gx (isW.i1 (by assumption)) | exact isI.gc (isW.i1 (by assumption)) | exact isI.gx (isW.i2 (by assumption)) | exact isI.gc (isW.i2 (by assumption)) | exact isI.gx (isW.i3 (by assumption)) | exact isI.gc (isW.i3 (by assumption)) | exact isI.gx (isW.i4 (by assumption)) | exact isI.gc (isW.i4 (by assumption)) | exact isI.gx (isW.i5 (by assumption)) | exact isI.gc (isW.i5 (by assumption)) | exact isR.gx (by assumption) | exact isRd.gx (by assumption) | exact isSp.gx (by assumption) | exact isI.gx (isR.i (by assumption)) | exact isI.gx (isRd.i (by assumption)) | exact isI.gc (isRd.i (by assumption)) | exact isI.gx (isSp.i (by assumption)) | exact isW.gx (isR.w (by assumption)) | exact isW.gF (isR.w (by assumption)) | fail "no such object") rfl rfl (Nat.le_of_ble_eq_true rfl) (cq_heldWithName _ hR.w hc hN hcap (y := y)) (fun v_5 h_5 q_5 => ?_)
  obtain ⟨rfl, rfl⟩ := q_5
  refine r_istore (pc := 8) dX3_moveNamed_8 (Nat.le_of_ble_eq_true rfl) ?_
  dsimp only [lsSt, List.set, mLs, mEnt]
  refine r_iload (pc := 10) dX3_moveNamed_10 rfl ?_
  refine rj_if_ge (pc := 12) (tgt := 18) dX3_moveNamed_12 (by decide) (by first | exact b01_r | exact bz_r | omega | (constructor <;> omega) | apply_assumption | (apply atF_r; assumption) | fail "no range") (fun c_12 => ?_) (fun c_12 => ?_)
  · refine r_aload_n (pc := 18) dX3_moveNamed_18 rfl (by first | rfl | exact isRefV_rf _) ?_
    refine r_getf (pc := 19) dX3_moveNamed_19 fX3_12 (by first | assumption | exact isI.gx (by assumption) | exact isI.gc (by assumption) | exact isW.gx (by assumption) | exact isW.gF (by assumption) | exact isW.gT (by assumption) (by omega) | exact isW.gS (by assumption) (by omega) | exact isW.gK (by assumption) (by omega) | exact isW.g1 (by assumption) | exact isW.g2 (by assumption) | exact isW.g3 (by assumption) | exact isI.gx (isW.i0 (by assumption)) | exact isI.gc (isW.i0 (by assumption)) | exact isI.gx (isW.i1 (by assumption)) | exact isI.gc (isW.i1 (by assumption)) | exact isI.gx (isW.i2 (by assumption)) | exact isI.gc (isW.i2 (by assumption)) | exact isI.gx (isW.i3 (by assumption)) | exact isI.gc (isW.i3 (by assumption)) | exact isI.gx (isW.i4 (by assumption)) | exact isI.gc (isW.i4 (by assumption)) | exact isI.gx (isW.i5 (by assumption)) | exact isI.gc (isW.i5 (by assumption)) | exact isR.gx (by assumption) | exact isRd.gx (by assumption) | exact isSp.gx (by assumption) | exact isI.gx (isR.i (by assumption)) | exact isI.gx (isRd.i (by assumption)) | exact isI.gc (isRd.i (by assumption)) | exact isI.gx (isSp.i (by assumption)) | exact isW.gx (isR.w (by assumption)) | exact isW.gF (isR.w (by assumption)) | fail "no such object") (by rfl) ?_
    refine r_iload_n (pc := 22) dX3_moveNamed_22 rfl ?_
    refine r_callV1 (pc := 23) dX3_moveNamed_23 qX9_isOpen kX3_77 vX9_isOpen (by first | assumption | exact isI.gx (by assumption) | exact isI.gc (by assumption) | exact isW.gx (by assumption) | exact isW.gF (by assumption) | exact isW.gT (by assumption) (by omega) | exact isW.gS (by assumption) (by omega) | exact isW.gK (by assumption) (by omega) | exact isW.g1 (by assumption) | exact isW.g2 (by assumption) | exact isW.g3 (by assumption) | exact isI.gx (isW.i0 (by assumption)) | exact isI.gc (isW.i0 (by assumption)) | exact isI.gx (isW.i1 (by assumption)) | exact isI.gc (isW.i1 (by assumption)) | exact isI.gx (isW.i2 (by assumption)) | exact isI.gc (isW.i2 (by assumption)) | exact isI.gx (isW.i3 (by assumption)) | exact isI.gc (isW.i3 (by assumption)) | exact isI.gx (isW.i4 (by assumption)) | exact isI.gc (isW.i4 (by assumption)) | exact isI.gx (isW.i5 (by assumption)) | exact isI.gc (isW.i5 (by assumption)) | exact isR.gx (by assumption) | exact isRd.gx (by assumption) | exact isSp.gx (by assumption) | exact isI.gx (isR.i (by assumption)) | exact isI.gx (isRd.i (by assumption)) | exact isI.gc (isRd.i (by assumption)) | exact isI.gx (isSp.i (by assumption)) | exact isW.gx (isR.w (by assumption)) | exact isW.gF (isR.w (by assumption)) | fail "no such object") rfl rfl (Nat.le_of_ble_eq_true rfl) (cw_isOpen _ hR.w hc hi) (fun v_23 h_23 q_23 => ?_)
    obtain ⟨rfl, rfl⟩ := q_23
    refine rj_if_ne (pc := 26) (tgt := 32) dX3_moveNamed_26 (by decide) (by first | exact b01_r | exact bz_r | omega | (constructor <;> omega) | apply_assumption | (apply atF_r; assumption) | fail "no range") (fun c_26 => ?_) (fun c_26 => ?_)
    · try simp only [b01_0, bz_0, Classical.not_not] at c_26
      refine r_aload_n (pc := 32) dX3_moveNamed_32 rfl (by first | rfl | exact isRefV_rf _) ?_
      refine r_getf (pc := 33) dX3_moveNamed_33 fX3_12 (by first | assumption | exact isI.gx (by assumption) | exact isI.gc (by assumption) | exact isW.gx (by assumption) | exact isW.gF (by assumption) | exact isW.gT (by assumption) (by omega) | exact isW.gS (by assumption) (by omega) | exact isW.gK (by assumption) (by omega) | exact isW.g1 (by assumption) | exact isW.g2 (by assumption) | exact isW.g3 (by assumption) | exact isI.gx (isW.i0 (by assumption)) | exact isI.gc (isW.i0 (by assumption)) | exact isI.gx (isW.i1 (by assumption)) | exact isI.gc (isW.i1 (by assumption)) | exact isI.gx (isW.i2 (by assumption)) | exact isI.gc (isW.i2 (by assumption)) | exact isI.gx (isW.i3 (by assumption)) | exact isI.gc (isW.i3 (by assumption)) | exact isI.gx (isW.i4 (by assumption)) | exact isI.gc (isW.i4 (by assumption)) | exact isI.gx (isW.i5 (by assumption)) | exact isI.gc (isW.i5 (by assumption)) | exact isR.gx (by assumption) | exact isRd.gx (by assumption) | exact isSp.gx (by assumption) | exact isI.gx (isR.i (by assumption)) | exact isI.gx (isRd.i (by assumption)) | exact isI.gc (isRd.i (by assumption)) | exact isI.gx (isSp.i (by assumption)) | exact isW.gx (isR.w (by assumption)) | exact isW.gF (isR.w (by assumption)) | fail "no such object") (by rfl) ?_
      refine r_iload (pc := 36) dX3_moveNamed_36 rfl ?_
      refine r_iload_n (pc := 38) dX3_moveNamed_38 rfl ?_
      rcases hnL_r (c := c) (nm := nm) (y := y) N 0 with ⟨e, -⟩ | ⟨q, e, -, qb, qh, qn⟩
      · exfalso; omega
      rw [e]
      refine r_callV2 (pc := 39) dX3_moveNamed_39 qX9_moveThing kX3_228 vX9_moveThing (by first | assumption | exact isI.gx (by assumption) | exact isI.gc (by assumption) | exact isW.gx (by assumption) | exact isW.gF (by assumption) | exact isW.gT (by assumption) (by omega) | exact isW.gS (by assumption) (by omega) | exact isW.gK (by assumption) (by omega) | exact isW.g1 (by assumption) | exact isW.g2 (by assumption) | exact isW.g3 (by assumption) | exact isI.gx (isW.i0 (by assumption)) | exact isI.gc (isW.i0 (by assumption)) | exact isI.gx (isW.i1 (by assumption)) | exact isI.gc (isW.i1 (by assumption)) | exact isI.gx (isW.i2 (by assumption)) | exact isI.gc (isW.i2 (by assumption)) | exact isI.gx (isW.i3 (by assumption)) | exact isI.gc (isW.i3 (by assumption)) | exact isI.gx (isW.i4 (by assumption)) | exact isI.gc (isW.i4 (by assumption)) | exact isI.gx (isW.i5 (by assumption)) | exact isI.gc (isW.i5 (by assumption)) | exact isR.gx (by assumption) | exact isRd.gx (by assumption) | exact isSp.gx (by assumption) | exact isI.gx (isR.i (by assumption)) | exact isI.gx (isRd.i (by assumption)) | exact isI.gc (isRd.i (by assumption)) | exact isI.gx (isSp.i (by assumption)) | exact isW.gx (isR.w (by assumption)) | exact isW.gF (isR.w (by assumption)) | fail "no such object") rfl rfl (Nat.le_of_ble_eq_true rfl) (cq_moveThing _ hR.w hc (q := q) (by omega) (by omega) hZ hcapZ hC (i := i)) (fun v_39 h_39 q_39 => ?_)
      obtain ⟨rfl, hW_39, S_39⟩ := q_39
      have hR_39 := hR.ofWr S_39 hW_39
      refine rj_iconst (pc := 42) dX3_moveNamed_42 ?_
      refine r_ireturn (pc := 43) .int dX3_moveNamed_43 rfl (by first | rfl | assumption) ?_
      exact Or.inr (Or.inr ⟨q, by omega, rfl, qh, qn, c_26, rfl, hR_39.1, hR_39.2⟩)
    · try simp only [b01_0, bz_0, Classical.not_not] at c_26
      refine rj_bipush (pc := 29) dX3_moveNamed_29 (by decide +kernel) ?_
      refine r_ireturn (pc := 31) .int dX3_moveNamed_31 rfl (by first | rfl | assumption) ?_
      exact Or.inr (Or.inl ⟨by omega, c_26, rfl, rfl⟩)
  · refine rj_bipush (pc := 15) dX3_moveNamed_15 (by decide +kernel) ?_
    refine r_ireturn (pc := 17) .int dX3_moveNamed_17 rfl (by first | rfl | assumption) ?_
    exact Or.inl ⟨by omega, rfl, rfl⟩
set_option maxHeartbeats 4000000 in
set_option maxRecDepth 100000 in
theorem cr_askToCancel {G : mG} {l : Launch} (d : Nat) {h : mH} {r : Nat} {b z : Int} {f : Nat → Int} {c : Nat → Int} {C : Nat → Nat → Int} {nm : Nat → Int64} {g : Nat → Option Nat} (hR : isR h r b z f c C nm g) (hc : ∀ q, InR (c q)) {i : Int} (hi : InR i) : RUNM G l (d + 1) mX3_askToCancel [.ref r, .int (J i)] h (fun v h' => (¬ (inW c 2 10 i ∧ c (489 + 9 * i.toNat) = 0) ∧ v = some (.int (J 106)) ∧ h' = h) ∨ ((inW c 2 10 i ∧ c (489 + 9 * i.toNat) = 0) ∧ v = some (.int (J 0)) ∧ isR h' r b z f (updI c (496 + 9 * i.toNat) 1) C nm g ∧ Same (rBlk r) h h')) := by
  refine RUNM.of (by decide +kernel) (Nat.le_of_ble_eq_true rfl) ?_
  have hW := hR.w
  refine r_aload_n (pc := 0) dX3_askToCancel_0 rfl (by first | rfl | exact isRefV_rf _) ?_
  refine r_getf (pc := 1) dX3_askToCancel_1 fX3_12 (by first | assumption | exact isI.gx (by assumption) | exact isI.gc (by assumption) | exact isW.gx (by assumption) | exact isW.gF (by assumption) | exact isW.gT (by assumption) (by omega) | exact isW.gS (by assumption) (by omega) | exact isW.gK (by assumption) (by omega) | exact isW.g1 (by assumption) | exact isW.g2 (by assumption) | exact isW.g3 (by assumption) | exact isI.gx (isW.i0 (by assumption)) | exact isI.gc (isW.i0 (by assumption)) | exact isI.gx (isW.i1 (by assumption)) | exact isI.gc (isW.i1 (by assumption)) | exact isI.gx (isW.i2 (by assumption)) | exact isI.gc (isW.i2 (by assumption)) | exact isI.gx (isW.i3 (by assumption)) | exact isI.gc (isW.i3 (by assumption)) | exact isI.gx (isW.i4 (by assumption)) | exact isI.gc (isW.i4 (by assumption)) | exact isI.gx (isW.i5 (by assumption)) | exact isI.gc (isW.i5 (by assumption)) | exact isR.gx (by assumption) | exact isRd.gx (by assumption) | exact isSp.gx (by assumption) | exact isI.gx (isR.i (by assumption)) | exact isI.gx (isRd.i (by assumption)) | exact isI.gc (isRd.i (by assumption)) | exact isI.gx (isSp.i (by assumption)) | exact isW.gx (isR.w (by assumption)) | exact isW.gF (isR.w (by assumption)) | fail "no such object") (by rfl) ?_
  refine r_iload_n (pc := 4) dX3_askToCancel_4 rfl ?_
  refine r_callV1 (pc := 5) dX3_askToCancel_5 qX9_taskAt kX3_57 vX9_taskAt (by first | assumption | exact isI.gx (by assumption) | exact isI.gc (by assumption) | exact isW.gx (by assumption) | exact isW.gF (by assumption) | exact isW.gT (by assumption) (by omega) | exact isW.gS (by assumption) (by omega) | exact isW.gK (by assumption) (by omega) | exact isW.g1 (by assumption) | exact isW.g2 (by assumption) | exact isW.g3 (by assumption) | exact isI.gx (isW.i0 (by assumption)) | exact isI.gc (isW.i0 (by assumption)) | exact isI.gx (isW.i1 (by assumption)) | exact isI.gc (isW.i1 (by assumption)) | exact isI.gx (isW.i2 (by assumption)) | exact isI.gc (isW.i2 (by assumption)) | exact isI.gx (isW.i3 (by assumption)) | exact isI.gc (isW.i3 (by assumption)) | exact isI.gx (isW.i4 (by assumption)) | exact isI.gc (isW.i4 (by assumption)) | exact isI.gx (isW.i5 (by assumption)) | exact isI.gc (isW.i5 (by assumption)) | exact isR.gx (by assumption) | exact isRd.gx (by assumption) | exact isSp.gx (by assumption) | exact isI.gx (isR.i (by assumption)) | exact isI.gx (isRd.i (by assumption)) | exact isI.gc (isRd.i (by assumption)) | exact isI.gx (isSp.i (by assumption)) | exact isW.gx (isR.w (by assumption)) | exact isW.gF (isR.w (by assumption)) | fail "no such object") rfl rfl (Nat.le_of_ble_eq_true rfl) (cw_taskAt _ hR.w hc hi) (fun v_5 h_5 q_5 => ?_)
  obtain ⟨q1_5, rfl⟩ := q_5
  by_cases e_5 : inW c 2 10 i
  · obtain rfl := tkAt_P e_5 q1_5
    refine r_astore_n (pc := 8) dX3_askToCancel_8 (Nat.le_of_ble_eq_true rfl) (by first | rfl | exact isRefV_rf _) ?_
    dsimp only [lsSt, List.set, mLs, mEnt]
    refine r_aload_n (pc := 9) dX3_askToCancel_9 rfl (by first | rfl | exact isRefV_rf _) ?_
    refine r_ifnull (pc := 10) (tgt := 20) dX3_askToCancel_10 (by decide) (by first | rfl | exact isRefV_rf _) (fun c_10 => by cases c_10) (fun a_10 c_10 => ?_)
    refine r_aload_n (pc := 13) dX3_askToCancel_13 rfl (by first | rfl | exact isRefV_rf _) ?_
    refine r_getf (pc := 14) dX3_askToCancel_14 fX3_81 (by first | assumption | exact isI.gx (by assumption) | exact isI.gc (by assumption) | exact isW.gx (by assumption) | exact isW.gF (by assumption) | exact isW.gT (by assumption) (by omega) | exact isW.gS (by assumption) (by omega) | exact isW.gK (by assumption) (by omega) | exact isW.g1 (by assumption) | exact isW.g2 (by assumption) | exact isW.g3 (by assumption) | exact isI.gx (isW.i0 (by assumption)) | exact isI.gc (isW.i0 (by assumption)) | exact isI.gx (isW.i1 (by assumption)) | exact isI.gc (isW.i1 (by assumption)) | exact isI.gx (isW.i2 (by assumption)) | exact isI.gc (isW.i2 (by assumption)) | exact isI.gx (isW.i3 (by assumption)) | exact isI.gc (isW.i3 (by assumption)) | exact isI.gx (isW.i4 (by assumption)) | exact isI.gc (isW.i4 (by assumption)) | exact isI.gx (isW.i5 (by assumption)) | exact isI.gc (isW.i5 (by assumption)) | exact isR.gx (by assumption) | exact isRd.gx (by assumption) | exact isSp.gx (by assumption) | exact isI.gx (isR.i (by assumption)) | exact isI.gx (isRd.i (by assumption)) | exact isI.gc (isRd.i (by assumption)) | exact isI.gx (isSp.i (by assumption)) | exact isW.gx (isR.w (by assumption)) | exact isW.gF (isR.w (by assumption)) | fail "no such object") (by rfl) ?_
    refine rj_if_eq (pc := 17) (tgt := 23) dX3_askToCancel_17 (by decide) (by first | exact b01_r | exact bz_r | omega | (constructor <;> omega) | apply_assumption | (apply atF_r; assumption) | fail "no range") (fun c_17 => ?_) (fun c_17 => ?_)
    · try simp only [b01_0, bz_0, Classical.not_not] at c_17
      refine r_aload_n (pc := 23) dX3_askToCancel_23 rfl (by first | rfl | exact isRefV_rf _) ?_
      refine rj_iconst (pc := 24) dX3_askToCancel_24 ?_
      refine rc_putK10 (pc := 25) dX3_askToCancel_25 fX3_70 (by assumption) (by omega) (by first | exact nar_J0 | exact nar_J1 | exact nar_b01 | assumption) (by first | exact fit_J0 | exact fit_J1 | assumption) (fun h_25 hW_25 hS_25 => ?_)
      refine rj_iconst (pc := 28) dX3_askToCancel_28 ?_
      refine r_ireturn (pc := 29) .int dX3_askToCancel_29 rfl (by first | rfl | assumption) ?_
      have hR_25 := hR.ofWr hS_25 hW_25
      exact Or.inr ⟨⟨by assumption, c_17⟩, rfl, hR_25.1, hR_25.2⟩
    · try simp only [b01_0, bz_0, Classical.not_not] at c_17
      refine rj_bipush (pc := 20) dX3_askToCancel_20 (by decide +kernel) ?_
      refine r_ireturn (pc := 22) .int dX3_askToCancel_22 rfl (by first | rfl | assumption) ?_
      first | exact Or.inl ⟨fun g => absurd g.1 (by assumption), rfl, rfl⟩ | exact Or.inl ⟨fun g => absurd g.2 (by assumption), rfl, rfl⟩
  · obtain rfl := tkAt_N e_5 q1_5
    refine r_astore_n (pc := 8) dX3_askToCancel_8 (Nat.le_of_ble_eq_true rfl) (by first | rfl | exact isRefV_rf _) ?_
    dsimp only [lsSt, List.set, mLs, mEnt]
    refine r_aload_n (pc := 9) dX3_askToCancel_9 rfl (by first | rfl | exact isRefV_rf _) ?_
    refine r_ifnull (pc := 10) (tgt := 20) dX3_askToCancel_10 (by decide) (by first | rfl | exact isRefV_rf _) (fun c_10 => ?_) (fun a_10 c_10 => by cases c_10)
    refine rj_bipush (pc := 20) dX3_askToCancel_20 (by decide +kernel) ?_
    refine r_ireturn (pc := 22) .int dX3_askToCancel_22 rfl (by first | rfl | assumption) ?_
    first | exact Or.inl ⟨fun g => absurd g.1 (by assumption), rfl, rfl⟩ | exact Or.inl ⟨fun g => absurd g.2 (by assumption), rfl, rfl⟩
def oiC (c : Nat → Int) (S Z q : Nat) : Nat → Int := updI (adE (asC c S (c (494 + 9 * q)) (q : Int)) Z) (494 + 9 * q) (S : Int)
set_option maxHeartbeats 4000000 in
set_option maxRecDepth 100000 in
theorem cr_openInner {G : mG} {l : Launch} (d : Nat) {h : mH} {r : Nat} {z b : Int} {f : Nat → Int} {c : Nat → Int} {C : Nat → Nat → Int} {nm : Nat → Int64} {g : Nat → Option Nat} (hR : isR h r b z f c C nm g) (hc : ∀ q, InR (c q)) {S : Nat} (hS : c 1 = (S : Int)) (hcapS : S ≤ 60) {Z : Nat} (hZ : c 10 = (Z : Int)) (hcapZ : Z < 150) {q : Nat} (hb : b = (q : Int)) (hq : (q : Int) < c 2) (hq2 : q < 10) : RUNM G l (d + 2) mX3_openInner [.ref r] h (fun v h' => (60 ≤ S ∧ v = some (.int (J 107)) ∧ h' = h) ∨ (S < 60 ∧ ¬ opP c (c (494 + 9 * q)) ∧ v = some (.int (J 101)) ∧ h' = h) ∨ (S < 60 ∧ opP c (c (494 + 9 * q)) ∧ v = some (.int (J 0)) ∧ isR h' r b z f (oiC c S Z q) (updC C 2 (updI (C 2) Z (100 + (S : Int)))) nm g ∧ Same (rBlk r) h h')) := by
  refine RUNM.of (by decide +kernel) (Nat.le_of_ble_eq_true rfl) ?_
  subst hb
  have hW := hR.w
  refine r_aload_n (pc := 0) dX3_openInner_0 rfl (by first | rfl | exact isRefV_rf _) ?_
  refine r_getf (pc := 1) dX3_openInner_1 fX3_12 (by first | assumption | exact isI.gx (by assumption) | exact isI.gc (by assumption) | exact isW.gx (by assumption) | exact isW.gF (by assumption) | exact isW.gT (by assumption) (by omega) | exact isW.gS (by assumption) (by omega) | exact isW.gK (by assumption) (by omega) | exact isW.g1 (by assumption) | exact isW.g2 (by assumption) | exact isW.g3 (by assumption) | exact isI.gx (isW.i0 (by assumption)) | exact isI.gc (isW.i0 (by assumption)) | exact isI.gx (isW.i1 (by assumption)) | exact isI.gc (isW.i1 (by assumption)) | exact isI.gx (isW.i2 (by assumption)) | exact isI.gc (isW.i2 (by assumption)) | exact isI.gx (isW.i3 (by assumption)) | exact isI.gc (isW.i3 (by assumption)) | exact isI.gx (isW.i4 (by assumption)) | exact isI.gc (isW.i4 (by assumption)) | exact isI.gx (isW.i5 (by assumption)) | exact isI.gc (isW.i5 (by assumption)) | exact isR.gx (by assumption) | exact isRd.gx (by assumption) | exact isSp.gx (by assumption) | exact isI.gx (isR.i (by assumption)) | exact isI.gx (isRd.i (by assumption)) | exact isI.gc (isRd.i (by assumption)) | exact isI.gx (isSp.i (by assumption)) | exact isW.gx (isR.w (by assumption)) | exact isW.gF (isR.w (by assumption)) | fail "no such object") (by rfl) ?_
  refine r_aload_n (pc := 4) dX3_openInner_4 rfl (by first | rfl | exact isRefV_rf _) ?_
  refine r_getf (pc := 5) dX3_openInner_5 fX3_27 (by first | assumption | exact isI.gx (by assumption) | exact isI.gc (by assumption) | exact isW.gx (by assumption) | exact isW.gF (by assumption) | exact isW.gT (by assumption) (by omega) | exact isW.gS (by assumption) (by omega) | exact isW.gK (by assumption) (by omega) | exact isW.g1 (by assumption) | exact isW.g2 (by assumption) | exact isW.g3 (by assumption) | exact isI.gx (isW.i0 (by assumption)) | exact isI.gc (isW.i0 (by assumption)) | exact isI.gx (isW.i1 (by assumption)) | exact isI.gc (isW.i1 (by assumption)) | exact isI.gx (isW.i2 (by assumption)) | exact isI.gc (isW.i2 (by assumption)) | exact isI.gx (isW.i3 (by assumption)) | exact isI.gc (isW.i3 (by assumption)) | exact isI.gx (isW.i4 (by assumption)) | exact isI.gc (isW.i4 (by assumption)) | exact isI.gx (isW.i5 (by assumption)) | exact isI.gc (isW.i5 (by assumption)) | exact isR.gx (by assumption) | exact isRd.gx (by assumption) | exact isSp.gx (by assumption) | exact isI.gx (isR.i (by assumption)) | exact isI.gx (isRd.i (by assumption)) | exact isI.gc (isRd.i (by assumption)) | exact isI.gx (isSp.i (by assumption)) | exact isW.gx (isR.w (by assumption)) | exact isW.gF (isR.w (by assumption)) | fail "no such object") (by rfl) ?_
  refine r_callV1 (pc := 8) dX3_openInner_8 qX9_taskAt kX3_57 vX9_taskAt (by first | assumption | exact isI.gx (by assumption) | exact isI.gc (by assumption) | exact isW.gx (by assumption) | exact isW.gF (by assumption) | exact isW.gT (by assumption) (by omega) | exact isW.gS (by assumption) (by omega) | exact isW.gK (by assumption) (by omega) | exact isW.g1 (by assumption) | exact isW.g2 (by assumption) | exact isW.g3 (by assumption) | exact isI.gx (isW.i0 (by assumption)) | exact isI.gc (isW.i0 (by assumption)) | exact isI.gx (isW.i1 (by assumption)) | exact isI.gc (isW.i1 (by assumption)) | exact isI.gx (isW.i2 (by assumption)) | exact isI.gc (isW.i2 (by assumption)) | exact isI.gx (isW.i3 (by assumption)) | exact isI.gc (isW.i3 (by assumption)) | exact isI.gx (isW.i4 (by assumption)) | exact isI.gc (isW.i4 (by assumption)) | exact isI.gx (isW.i5 (by assumption)) | exact isI.gc (isW.i5 (by assumption)) | exact isR.gx (by assumption) | exact isRd.gx (by assumption) | exact isSp.gx (by assumption) | exact isI.gx (isR.i (by assumption)) | exact isI.gx (isRd.i (by assumption)) | exact isI.gc (isRd.i (by assumption)) | exact isI.gx (isSp.i (by assumption)) | exact isW.gx (isR.w (by assumption)) | exact isW.gF (isR.w (by assumption)) | fail "no such object") rfl rfl (Nat.le_of_ble_eq_true rfl) (cw_taskAt _ hR.w hc (i := (q : Int)) ⟨by omega, by omega⟩) (fun v_8 h_8 q_8 => ?_)
  obtain ⟨q1_8, rfl⟩ := q_8
  · obtain rfl := tkAt_P (by omega) q1_8
    refine r_astore_n (pc := 11) dX3_openInner_11 (Nat.le_of_ble_eq_true rfl) (by first | rfl | exact isRefV_rf _) ?_
    dsimp only [lsSt, List.set, mLs, mEnt]
    refine r_aload_n (pc := 12) dX3_openInner_12 rfl (by first | rfl | exact isRefV_rf _) ?_
    refine r_ifnonnull (pc := 13) (tgt := 18) dX3_openInner_13 (by decide) (by first | rfl | exact isRefV_rf _) (fun a_13 c_13 => ?_) (fun c_13 => by cases c_13)
    rw [Int.toNat_natCast]
    refine r_aload_n (pc := 18) dX3_openInner_18 rfl (by first | rfl | exact isRefV_rf _) ?_
    refine r_getf (pc := 19) dX3_openInner_19 fX3_12 (by first | assumption | exact isI.gx (by assumption) | exact isI.gc (by assumption) | exact isW.gx (by assumption) | exact isW.gF (by assumption) | exact isW.gT (by assumption) (by omega) | exact isW.gS (by assumption) (by omega) | exact isW.gK (by assumption) (by omega) | exact isW.g1 (by assumption) | exact isW.g2 (by assumption) | exact isW.g3 (by assumption) | exact isI.gx (isW.i0 (by assumption)) | exact isI.gc (isW.i0 (by assumption)) | exact isI.gx (isW.i1 (by assumption)) | exact isI.gc (isW.i1 (by assumption)) | exact isI.gx (isW.i2 (by assumption)) | exact isI.gc (isW.i2 (by assumption)) | exact isI.gx (isW.i3 (by assumption)) | exact isI.gc (isW.i3 (by assumption)) | exact isI.gx (isW.i4 (by assumption)) | exact isI.gc (isW.i4 (by assumption)) | exact isI.gx (isW.i5 (by assumption)) | exact isI.gc (isW.i5 (by assumption)) | exact isR.gx (by assumption) | exact isRd.gx (by assumption) | exact isSp.gx (by assumption) | exact isI.gx (isR.i (by assumption)) | exact isI.gx (isRd.i (by assumption)) | exact isI.gc (isRd.i (by assumption)) | exact isI.gx (isSp.i (by assumption)) | exact isW.gx (isR.w (by assumption)) | exact isW.gF (isR.w (by assumption)) | fail "no such object") (by rfl) ?_
    refine r_callV0 (pc := 22) dX3_openInner_22 qX9_scopesAreFull kX3_231 vX9_scopesAreFull (by first | assumption | exact isI.gx (by assumption) | exact isI.gc (by assumption) | exact isW.gx (by assumption) | exact isW.gF (by assumption) | exact isW.gT (by assumption) (by omega) | exact isW.gS (by assumption) (by omega) | exact isW.gK (by assumption) (by omega) | exact isW.g1 (by assumption) | exact isW.g2 (by assumption) | exact isW.g3 (by assumption) | exact isI.gx (isW.i0 (by assumption)) | exact isI.gc (isW.i0 (by assumption)) | exact isI.gx (isW.i1 (by assumption)) | exact isI.gc (isW.i1 (by assumption)) | exact isI.gx (isW.i2 (by assumption)) | exact isI.gc (isW.i2 (by assumption)) | exact isI.gx (isW.i3 (by assumption)) | exact isI.gc (isW.i3 (by assumption)) | exact isI.gx (isW.i4 (by assumption)) | exact isI.gc (isW.i4 (by assumption)) | exact isI.gx (isW.i5 (by assumption)) | exact isI.gc (isW.i5 (by assumption)) | exact isR.gx (by assumption) | exact isRd.gx (by assumption) | exact isSp.gx (by assumption) | exact isI.gx (isR.i (by assumption)) | exact isI.gx (isRd.i (by assumption)) | exact isI.gc (isRd.i (by assumption)) | exact isI.gx (isSp.i (by assumption)) | exact isW.gx (isR.w (by assumption)) | exact isW.gF (isR.w (by assumption)) | fail "no such object") rfl rfl (Nat.le_of_ble_eq_true rfl) (cw_scopesAreFull _ hR.w hc) (fun v_22 h_22 q_22 => ?_)
    obtain ⟨rfl, rfl⟩ := q_22
    refine rj_if_eq (pc := 25) (tgt := 31) dX3_openInner_25 (by decide) (by first | exact b01_r | exact bz_r | omega | (constructor <;> omega) | apply_assumption | (apply atF_r; assumption) | fail "no range") (fun c_25 => ?_) (fun c_25 => ?_)
    · try simp only [b01_0, bz_0, Classical.not_not] at c_25
      refine r_aload_n (pc := 31) dX3_openInner_31 rfl (by first | rfl | exact isRefV_rf _) ?_
      refine r_getf (pc := 32) dX3_openInner_32 fX3_12 (by first | assumption | exact isI.gx (by assumption) | exact isI.gc (by assumption) | exact isW.gx (by assumption) | exact isW.gF (by assumption) | exact isW.gT (by assumption) (by omega) | exact isW.gS (by assumption) (by omega) | exact isW.gK (by assumption) (by omega) | exact isW.g1 (by assumption) | exact isW.g2 (by assumption) | exact isW.g3 (by assumption) | exact isI.gx (isW.i0 (by assumption)) | exact isI.gc (isW.i0 (by assumption)) | exact isI.gx (isW.i1 (by assumption)) | exact isI.gc (isW.i1 (by assumption)) | exact isI.gx (isW.i2 (by assumption)) | exact isI.gc (isW.i2 (by assumption)) | exact isI.gx (isW.i3 (by assumption)) | exact isI.gc (isW.i3 (by assumption)) | exact isI.gx (isW.i4 (by assumption)) | exact isI.gc (isW.i4 (by assumption)) | exact isI.gx (isW.i5 (by assumption)) | exact isI.gc (isW.i5 (by assumption)) | exact isR.gx (by assumption) | exact isRd.gx (by assumption) | exact isSp.gx (by assumption) | exact isI.gx (isR.i (by assumption)) | exact isI.gx (isRd.i (by assumption)) | exact isI.gc (isRd.i (by assumption)) | exact isI.gx (isSp.i (by assumption)) | exact isW.gx (isR.w (by assumption)) | exact isW.gF (isR.w (by assumption)) | fail "no such object") (by rfl) ?_
      refine r_aload_n (pc := 35) dX3_openInner_35 rfl (by first | rfl | exact isRefV_rf _) ?_
      refine r_getf (pc := 36) dX3_openInner_36 fX3_74 (by first | assumption | exact isI.gx (by assumption) | exact isI.gc (by assumption) | exact isW.gx (by assumption) | exact isW.gF (by assumption) | exact isW.gT (by assumption) (by omega) | exact isW.gS (by assumption) (by omega) | exact isW.gK (by assumption) (by omega) | exact isW.g1 (by assumption) | exact isW.g2 (by assumption) | exact isW.g3 (by assumption) | exact isI.gx (isW.i0 (by assumption)) | exact isI.gc (isW.i0 (by assumption)) | exact isI.gx (isW.i1 (by assumption)) | exact isI.gc (isW.i1 (by assumption)) | exact isI.gx (isW.i2 (by assumption)) | exact isI.gc (isW.i2 (by assumption)) | exact isI.gx (isW.i3 (by assumption)) | exact isI.gc (isW.i3 (by assumption)) | exact isI.gx (isW.i4 (by assumption)) | exact isI.gc (isW.i4 (by assumption)) | exact isI.gx (isW.i5 (by assumption)) | exact isI.gc (isW.i5 (by assumption)) | exact isR.gx (by assumption) | exact isRd.gx (by assumption) | exact isSp.gx (by assumption) | exact isI.gx (isR.i (by assumption)) | exact isI.gx (isRd.i (by assumption)) | exact isI.gc (isRd.i (by assumption)) | exact isI.gx (isSp.i (by assumption)) | exact isW.gx (isR.w (by assumption)) | exact isW.gF (isR.w (by assumption)) | fail "no such object") (by rfl) ?_
      refine r_callV1 (pc := 39) dX3_openInner_39 qX9_isOpen kX3_77 vX9_isOpen (by first | assumption | exact isI.gx (by assumption) | exact isI.gc (by assumption) | exact isW.gx (by assumption) | exact isW.gF (by assumption) | exact isW.gT (by assumption) (by omega) | exact isW.gS (by assumption) (by omega) | exact isW.gK (by assumption) (by omega) | exact isW.g1 (by assumption) | exact isW.g2 (by assumption) | exact isW.g3 (by assumption) | exact isI.gx (isW.i0 (by assumption)) | exact isI.gc (isW.i0 (by assumption)) | exact isI.gx (isW.i1 (by assumption)) | exact isI.gc (isW.i1 (by assumption)) | exact isI.gx (isW.i2 (by assumption)) | exact isI.gc (isW.i2 (by assumption)) | exact isI.gx (isW.i3 (by assumption)) | exact isI.gc (isW.i3 (by assumption)) | exact isI.gx (isW.i4 (by assumption)) | exact isI.gc (isW.i4 (by assumption)) | exact isI.gx (isW.i5 (by assumption)) | exact isI.gc (isW.i5 (by assumption)) | exact isR.gx (by assumption) | exact isRd.gx (by assumption) | exact isSp.gx (by assumption) | exact isI.gx (isR.i (by assumption)) | exact isI.gx (isRd.i (by assumption)) | exact isI.gc (isRd.i (by assumption)) | exact isI.gx (isSp.i (by assumption)) | exact isW.gx (isR.w (by assumption)) | exact isW.gF (isR.w (by assumption)) | fail "no such object") rfl rfl (Nat.le_of_ble_eq_true rfl) (cw_isOpen _ hR.w hc (hc _)) (fun v_39 h_39 q_39 => ?_)
      obtain ⟨rfl, rfl⟩ := q_39
      refine rj_if_ne (pc := 42) (tgt := 48) dX3_openInner_42 (by decide) (by first | exact b01_r | exact bz_r | omega | (constructor <;> omega) | apply_assumption | (apply atF_r; assumption) | fail "no range") (fun c_42 => ?_) (fun c_42 => ?_)
      · try simp only [b01_0, bz_0, Classical.not_not] at c_42
        refine r_aload_n (pc := 48) dX3_openInner_48 rfl (by first | rfl | exact isRefV_rf _) ?_
        refine r_aload_n (pc := 49) dX3_openInner_49 rfl (by first | rfl | exact isRefV_rf _) ?_
        refine r_getf (pc := 50) dX3_openInner_50 fX3_12 (by first | assumption | exact isI.gx (by assumption) | exact isI.gc (by assumption) | exact isW.gx (by assumption) | exact isW.gF (by assumption) | exact isW.gT (by assumption) (by omega) | exact isW.gS (by assumption) (by omega) | exact isW.gK (by assumption) (by omega) | exact isW.g1 (by assumption) | exact isW.g2 (by assumption) | exact isW.g3 (by assumption) | exact isI.gx (isW.i0 (by assumption)) | exact isI.gc (isW.i0 (by assumption)) | exact isI.gx (isW.i1 (by assumption)) | exact isI.gc (isW.i1 (by assumption)) | exact isI.gx (isW.i2 (by assumption)) | exact isI.gc (isW.i2 (by assumption)) | exact isI.gx (isW.i3 (by assumption)) | exact isI.gc (isW.i3 (by assumption)) | exact isI.gx (isW.i4 (by assumption)) | exact isI.gc (isW.i4 (by assumption)) | exact isI.gx (isW.i5 (by assumption)) | exact isI.gc (isW.i5 (by assumption)) | exact isR.gx (by assumption) | exact isRd.gx (by assumption) | exact isSp.gx (by assumption) | exact isI.gx (isR.i (by assumption)) | exact isI.gx (isRd.i (by assumption)) | exact isI.gc (isRd.i (by assumption)) | exact isI.gx (isSp.i (by assumption)) | exact isW.gx (isR.w (by assumption)) | exact isW.gF (isR.w (by assumption)) | fail "no such object") (by rfl) ?_
        refine r_aload_n (pc := 53) dX3_openInner_53 rfl (by first | rfl | exact isRefV_rf _) ?_
        refine r_getf (pc := 54) dX3_openInner_54 fX3_74 (by first | assumption | exact isI.gx (by assumption) | exact isI.gc (by assumption) | exact isW.gx (by assumption) | exact isW.gF (by assumption) | exact isW.gT (by assumption) (by omega) | exact isW.gS (by assumption) (by omega) | exact isW.gK (by assumption) (by omega) | exact isW.g1 (by assumption) | exact isW.g2 (by assumption) | exact isW.g3 (by assumption) | exact isI.gx (isW.i0 (by assumption)) | exact isI.gc (isW.i0 (by assumption)) | exact isI.gx (isW.i1 (by assumption)) | exact isI.gc (isW.i1 (by assumption)) | exact isI.gx (isW.i2 (by assumption)) | exact isI.gc (isW.i2 (by assumption)) | exact isI.gx (isW.i3 (by assumption)) | exact isI.gc (isW.i3 (by assumption)) | exact isI.gx (isW.i4 (by assumption)) | exact isI.gc (isW.i4 (by assumption)) | exact isI.gx (isW.i5 (by assumption)) | exact isI.gc (isW.i5 (by assumption)) | exact isR.gx (by assumption) | exact isRd.gx (by assumption) | exact isSp.gx (by assumption) | exact isI.gx (isR.i (by assumption)) | exact isI.gx (isRd.i (by assumption)) | exact isI.gc (isRd.i (by assumption)) | exact isI.gx (isSp.i (by assumption)) | exact isW.gx (isR.w (by assumption)) | exact isW.gF (isR.w (by assumption)) | fail "no such object") (by rfl) ?_
        refine r_aload_n (pc := 57) dX3_openInner_57 rfl (by first | rfl | exact isRefV_rf _) ?_
        refine r_getf (pc := 58) dX3_openInner_58 fX3_27 (by first | assumption | exact isI.gx (by assumption) | exact isI.gc (by assumption) | exact isW.gx (by assumption) | exact isW.gF (by assumption) | exact isW.gT (by assumption) (by omega) | exact isW.gS (by assumption) (by omega) | exact isW.gK (by assumption) (by omega) | exact isW.g1 (by assumption) | exact isW.g2 (by assumption) | exact isW.g3 (by assumption) | exact isI.gx (isW.i0 (by assumption)) | exact isI.gc (isW.i0 (by assumption)) | exact isI.gx (isW.i1 (by assumption)) | exact isI.gc (isW.i1 (by assumption)) | exact isI.gx (isW.i2 (by assumption)) | exact isI.gc (isW.i2 (by assumption)) | exact isI.gx (isW.i3 (by assumption)) | exact isI.gc (isW.i3 (by assumption)) | exact isI.gx (isW.i4 (by assumption)) | exact isI.gc (isW.i4 (by assumption)) | exact isI.gx (isW.i5 (by assumption)) | exact isI.gc (isW.i5 (by assumption)) | exact isR.gx (by assumption) | exact isRd.gx (by assumption) | exact isSp.gx (by assumption) | exact isI.gx (isR.i (by assumption)) | exact isI.gx (isRd.i (by assumption)) | exact isI.gc (isRd.i (by assumption)) | exact isI.gx (isSp.i (by assumption)) | exact isW.gx (isR.w (by assumption)) | exact isW.gF (isR.w (by assumption)) | fail "no such object") (by rfl) ?_
        refine r_callV2 (pc := 61) dX3_openInner_61 qX9_addScope kX3_234 vX9_addScope (by first | assumption | exact isI.gx (by assumption) | exact isI.gc (by assumption) | exact isW.gx (by assumption) | exact isW.gF (by assumption) | exact isW.gT (by assumption) (by omega) | exact isW.gS (by assumption) (by omega) | exact isW.gK (by assumption) (by omega) | exact isW.g1 (by assumption) | exact isW.g2 (by assumption) | exact isW.g3 (by assumption) | exact isI.gx (isW.i0 (by assumption)) | exact isI.gc (isW.i0 (by assumption)) | exact isI.gx (isW.i1 (by assumption)) | exact isI.gc (isW.i1 (by assumption)) | exact isI.gx (isW.i2 (by assumption)) | exact isI.gc (isW.i2 (by assumption)) | exact isI.gx (isW.i3 (by assumption)) | exact isI.gc (isW.i3 (by assumption)) | exact isI.gx (isW.i4 (by assumption)) | exact isI.gc (isW.i4 (by assumption)) | exact isI.gx (isW.i5 (by assumption)) | exact isI.gc (isW.i5 (by assumption)) | exact isR.gx (by assumption) | exact isRd.gx (by assumption) | exact isSp.gx (by assumption) | exact isI.gx (isR.i (by assumption)) | exact isI.gx (isRd.i (by assumption)) | exact isI.gc (isRd.i (by assumption)) | exact isI.gx (isSp.i (by assumption)) | exact isW.gx (isR.w (by assumption)) | exact isW.gF (isR.w (by assumption)) | fail "no such object") rfl rfl (Nat.le_of_ble_eq_true rfl) (cq_addScope _ hR.w hc hS (by omega) hZ hcapZ (hc _) (k := (q : Int)) ⟨by omega, by omega⟩) (fun v_61 h_61 q_61 => ?_)
        obtain ⟨rfl, hW_61, S_61⟩ := q_61
        have hW := hW_61
        refine rc_putK8 (pc := 64) dX3_openInner_64 fX3_74 (by assumption) (by omega) (fun h_64 hW_64 hS_64 => ?_)
        refine rj_iconst (pc := 67) dX3_openInner_67 ?_
        refine r_ireturn (pc := 68) .int dX3_openInner_68 rfl (by first | rfl | assumption) ?_
        have hR_64 := hR.ofWr (S_61.trans hS_64) hW_64
        exact Or.inr (Or.inr ⟨by omega, c_42, rfl, hR_64.1, hR_64.2⟩)
      · try simp only [b01_0, bz_0, Classical.not_not] at c_42
        refine rj_bipush (pc := 45) dX3_openInner_45 (by decide +kernel) ?_
        refine r_ireturn (pc := 47) .int dX3_openInner_47 rfl (by first | rfl | assumption) ?_
        exact Or.inr (Or.inl ⟨by omega, c_42, rfl, rfl⟩)
    · try simp only [b01_0, bz_0, Classical.not_not] at c_25
      refine rj_bipush (pc := 28) dX3_openInner_28 (by decide +kernel) ?_
      refine r_ireturn (pc := 30) .int dX3_openInner_30 rfl (by first | rfl | assumption) ?_
      exact Or.inl ⟨by omega, rfl, rfl⟩
end mg_98
section mg_99
/-! ===== the class: a step is done ===== -/
set_option maxHeartbeats 4000000 in
set_option maxRecDepth 100000 in
theorem cr_beginS {G : mG} {l : Launch} (d : Nat) {h : mH} {r : Nat} {b z : Int} {f : Nat → Int} {c : Nat → Int} {C : Nat → Nat → Int} {nm : Nat → Int64} {g : Nat → Option Nat} (hR : isR h r b z f c C nm g) (hc : ∀ q, InR (c q)) (hz0 : 0 ≤ z ∧ z < 160) {u : Nat} (hu : (u : Int) < c 1) (hu2 : u < 60) : RUNM G l (d + 2) mX3_beginToEnd [.ref r, .int (J (100 + (u : Int)))] h (fun v h' => v = none ∧ isR h' r b (z + 1) (updI f z.toNat (100 + (u : Int))) (updI c (304 + 3 * u) 2) C nm g ∧ Same (rBlk r) h h') := by
  have y := cr_beginToEndS (G := G) (l := l) d hR hc ⟨by omega, by omega⟩ hz0 (i := 100 + (u : Int)) (by omega) ⟨by omega, by omega, by omega⟩
  rw [show (100 + (u : Int) - 100).toNat = u by omega] at y
  exact y
set_option maxHeartbeats 4000000 in
set_option maxRecDepth 100000 in
theorem cr_shutInner {G : mG} {l : Launch} (d : Nat) {h : mH} {r : Nat} {z b : Int} {f : Nat → Int} {c : Nat → Int} {C : Nat → Nat → Int} {nm : Nat → Int64} {g : Nat → Option Nat} (hR : isR h r b z f c C nm g) (hc : ∀ q, InR (c q)) (hz0 : 0 ≤ z ∧ z < 160) {q : Nat} (hb : b = (q : Int)) (hq : (q : Int) < c 2) (hq2 : q < 10) {u : Nat} (hu : c (494 + 9 * q) = (u : Int)) (hu1 : (u : Int) < c 1) (hu2 : u < 60) (hne : ¬ c (494 + 9 * q) = c (493 + 9 * q)) : RUNM G l (d + 3) mX3_shutInner [.ref r] h (fun v h' => v = some (.int (J 0)) ∧ ((c (304 + 3 * u) = 0 ∧ isR h' r b (z + 1) (updI f z.toNat (100 + (u : Int))) (updI (updI c (304 + 3 * u) 2) (494 + 9 * q) (c (305 + 3 * u))) C nm g) ∨ (¬ c (304 + 3 * u) = 0 ∧ isR h' r b z f (updI c (494 + 9 * q) (c (305 + 3 * u))) C nm g)) ∧ Same (rBlk r) h h') := by
  refine RUNM.of (by decide +kernel) (Nat.le_of_ble_eq_true rfl) ?_
  subst hb
  have hW := hR.w
  have rq := hc (493 + 9 * q)
  refine r_aload_n (pc := 0) dX3_shutInner_0 rfl (by first | rfl | exact isRefV_rf _) ?_
  refine r_getf (pc := 1) dX3_shutInner_1 fX3_12 (by first | assumption | exact isI.gx (by assumption) | exact isI.gc (by assumption) | exact isW.gx (by assumption) | exact isW.gF (by assumption) | exact isW.gT (by assumption) (by omega) | exact isW.gS (by assumption) (by omega) | exact isW.gK (by assumption) (by omega) | exact isW.g1 (by assumption) | exact isW.g2 (by assumption) | exact isW.g3 (by assumption) | exact isI.gx (isW.i0 (by assumption)) | exact isI.gc (isW.i0 (by assumption)) | exact isI.gx (isW.i1 (by assumption)) | exact isI.gc (isW.i1 (by assumption)) | exact isI.gx (isW.i2 (by assumption)) | exact isI.gc (isW.i2 (by assumption)) | exact isI.gx (isW.i3 (by assumption)) | exact isI.gc (isW.i3 (by assumption)) | exact isI.gx (isW.i4 (by assumption)) | exact isI.gc (isW.i4 (by assumption)) | exact isI.gx (isW.i5 (by assumption)) | exact isI.gc (isW.i5 (by assumption)) | exact isR.gx (by assumption) | exact isRd.gx (by assumption) | exact isSp.gx (by assumption) | exact isI.gx (isR.i (by assumption)) | exact isI.gx (isRd.i (by assumption)) | exact isI.gc (isRd.i (by assumption)) | exact isI.gx (isSp.i (by assumption)) | exact isW.gx (isR.w (by assumption)) | exact isW.gF (isR.w (by assumption)) | fail "no such object") (by rfl) ?_
  refine r_aload_n (pc := 4) dX3_shutInner_4 rfl (by first | rfl | exact isRefV_rf _) ?_
  refine r_getf (pc := 5) dX3_shutInner_5 fX3_27 (by first | assumption | exact isI.gx (by assumption) | exact isI.gc (by assumption) | exact isW.gx (by assumption) | exact isW.gF (by assumption) | exact isW.gT (by assumption) (by omega) | exact isW.gS (by assumption) (by omega) | exact isW.gK (by assumption) (by omega) | exact isW.g1 (by assumption) | exact isW.g2 (by assumption) | exact isW.g3 (by assumption) | exact isI.gx (isW.i0 (by assumption)) | exact isI.gc (isW.i0 (by assumption)) | exact isI.gx (isW.i1 (by assumption)) | exact isI.gc (isW.i1 (by assumption)) | exact isI.gx (isW.i2 (by assumption)) | exact isI.gc (isW.i2 (by assumption)) | exact isI.gx (isW.i3 (by assumption)) | exact isI.gc (isW.i3 (by assumption)) | exact isI.gx (isW.i4 (by assumption)) | exact isI.gc (isW.i4 (by assumption)) | exact isI.gx (isW.i5 (by assumption)) | exact isI.gc (isW.i5 (by assumption)) | exact isR.gx (by assumption) | exact isRd.gx (by assumption) | exact isSp.gx (by assumption) | exact isI.gx (isR.i (by assumption)) | exact isI.gx (isRd.i (by assumption)) | exact isI.gc (isRd.i (by assumption)) | exact isI.gx (isSp.i (by assumption)) | exact isW.gx (isR.w (by assumption)) | exact isW.gF (isR.w (by assumption)) | fail "no such object") (by rfl) ?_
  refine r_callV1 (pc := 8) dX3_shutInner_8 qX9_taskAt kX3_57 vX9_taskAt (by first | assumption | exact isI.gx (by assumption) | exact isI.gc (by assumption) | exact isW.gx (by assumption) | exact isW.gF (by assumption) | exact isW.gT (by assumption) (by omega) | exact isW.gS (by assumption) (by omega) | exact isW.gK (by assumption) (by omega) | exact isW.g1 (by assumption) | exact isW.g2 (by assumption) | exact isW.g3 (by assumption) | exact isI.gx (isW.i0 (by assumption)) | exact isI.gc (isW.i0 (by assumption)) | exact isI.gx (isW.i1 (by assumption)) | exact isI.gc (isW.i1 (by assumption)) | exact isI.gx (isW.i2 (by assumption)) | exact isI.gc (isW.i2 (by assumption)) | exact isI.gx (isW.i3 (by assumption)) | exact isI.gc (isW.i3 (by assumption)) | exact isI.gx (isW.i4 (by assumption)) | exact isI.gc (isW.i4 (by assumption)) | exact isI.gx (isW.i5 (by assumption)) | exact isI.gc (isW.i5 (by assumption)) | exact isR.gx (by assumption) | exact isRd.gx (by assumption) | exact isSp.gx (by assumption) | exact isI.gx (isR.i (by assumption)) | exact isI.gx (isRd.i (by assumption)) | exact isI.gc (isRd.i (by assumption)) | exact isI.gx (isSp.i (by assumption)) | exact isW.gx (isR.w (by assumption)) | exact isW.gF (isR.w (by assumption)) | fail "no such object") rfl rfl (Nat.le_of_ble_eq_true rfl) (cw_taskAt _ hW hc (i := (q : Int)) ⟨by omega, by omega⟩) (fun v_8 h_8 q_8 => ?_)
  obtain ⟨q1_8, rfl⟩ := q_8
  · obtain rfl := tkAt_P (by omega) q1_8
    refine r_astore_n (pc := 11) dX3_shutInner_11 (Nat.le_of_ble_eq_true rfl) (by first | rfl | exact isRefV_rf _) ?_
    dsimp only [lsSt, List.set, mLs, mEnt]
    refine r_aload_n (pc := 12) dX3_shutInner_12 rfl (by first | rfl | exact isRefV_rf _) ?_
    refine r_ifnonnull (pc := 13) (tgt := 20) dX3_shutInner_13 (by decide) (by first | rfl | exact isRefV_rf _) (fun a_13 c_13 => ?_) (fun c_13 => by cases c_13)
    rw [Int.toNat_natCast]
    refine r_aload_n (pc := 20) dX3_shutInner_20 rfl (by first | rfl | exact isRefV_rf _) ?_
    refine r_getf (pc := 21) dX3_shutInner_21 fX3_12 (by first | assumption | exact isI.gx (by assumption) | exact isI.gc (by assumption) | exact isW.gx (by assumption) | exact isW.gF (by assumption) | exact isW.gT (by assumption) (by omega) | exact isW.gS (by assumption) (by omega) | exact isW.gK (by assumption) (by omega) | exact isW.g1 (by assumption) | exact isW.g2 (by assumption) | exact isW.g3 (by assumption) | exact isI.gx (isW.i0 (by assumption)) | exact isI.gc (isW.i0 (by assumption)) | exact isI.gx (isW.i1 (by assumption)) | exact isI.gc (isW.i1 (by assumption)) | exact isI.gx (isW.i2 (by assumption)) | exact isI.gc (isW.i2 (by assumption)) | exact isI.gx (isW.i3 (by assumption)) | exact isI.gc (isW.i3 (by assumption)) | exact isI.gx (isW.i4 (by assumption)) | exact isI.gc (isW.i4 (by assumption)) | exact isI.gx (isW.i5 (by assumption)) | exact isI.gc (isW.i5 (by assumption)) | exact isR.gx (by assumption) | exact isRd.gx (by assumption) | exact isSp.gx (by assumption) | exact isI.gx (isR.i (by assumption)) | exact isI.gx (isRd.i (by assumption)) | exact isI.gc (isRd.i (by assumption)) | exact isI.gx (isSp.i (by assumption)) | exact isW.gx (isR.w (by assumption)) | exact isW.gF (isR.w (by assumption)) | fail "no such object") (by rfl) ?_
    refine r_aload_n (pc := 24) dX3_shutInner_24 rfl (by first | rfl | exact isRefV_rf _) ?_
    refine r_getf (pc := 25) dX3_shutInner_25 fX3_74 (by first | assumption | exact isI.gx (by assumption) | exact isI.gc (by assumption) | exact isW.gx (by assumption) | exact isW.gF (by assumption) | exact isW.gT (by assumption) (by omega) | exact isW.gS (by assumption) (by omega) | exact isW.gK (by assumption) (by omega) | exact isW.g1 (by assumption) | exact isW.g2 (by assumption) | exact isW.g3 (by assumption) | exact isI.gx (isW.i0 (by assumption)) | exact isI.gc (isW.i0 (by assumption)) | exact isI.gx (isW.i1 (by assumption)) | exact isI.gc (isW.i1 (by assumption)) | exact isI.gx (isW.i2 (by assumption)) | exact isI.gc (isW.i2 (by assumption)) | exact isI.gx (isW.i3 (by assumption)) | exact isI.gc (isW.i3 (by assumption)) | exact isI.gx (isW.i4 (by assumption)) | exact isI.gc (isW.i4 (by assumption)) | exact isI.gx (isW.i5 (by assumption)) | exact isI.gc (isW.i5 (by assumption)) | exact isR.gx (by assumption) | exact isRd.gx (by assumption) | exact isSp.gx (by assumption) | exact isI.gx (isR.i (by assumption)) | exact isI.gx (isRd.i (by assumption)) | exact isI.gc (isRd.i (by assumption)) | exact isI.gx (isSp.i (by assumption)) | exact isW.gx (isR.w (by assumption)) | exact isW.gF (isR.w (by assumption)) | fail "no such object") (by rfl) ?_
    rw [hu]
    refine r_callV1 (pc := 28) dX3_shutInner_28 qX9_scopeAt kX3_103 vX9_scopeAt (by first | assumption | exact isI.gx (by assumption) | exact isI.gc (by assumption) | exact isW.gx (by assumption) | exact isW.gF (by assumption) | exact isW.gT (by assumption) (by omega) | exact isW.gS (by assumption) (by omega) | exact isW.gK (by assumption) (by omega) | exact isW.g1 (by assumption) | exact isW.g2 (by assumption) | exact isW.g3 (by assumption) | exact isI.gx (isW.i0 (by assumption)) | exact isI.gc (isW.i0 (by assumption)) | exact isI.gx (isW.i1 (by assumption)) | exact isI.gc (isW.i1 (by assumption)) | exact isI.gx (isW.i2 (by assumption)) | exact isI.gc (isW.i2 (by assumption)) | exact isI.gx (isW.i3 (by assumption)) | exact isI.gc (isW.i3 (by assumption)) | exact isI.gx (isW.i4 (by assumption)) | exact isI.gc (isW.i4 (by assumption)) | exact isI.gx (isW.i5 (by assumption)) | exact isI.gc (isW.i5 (by assumption)) | exact isR.gx (by assumption) | exact isRd.gx (by assumption) | exact isSp.gx (by assumption) | exact isI.gx (isR.i (by assumption)) | exact isI.gx (isRd.i (by assumption)) | exact isI.gc (isRd.i (by assumption)) | exact isI.gx (isSp.i (by assumption)) | exact isW.gx (isR.w (by assumption)) | exact isW.gF (isR.w (by assumption)) | fail "no such object") rfl rfl (Nat.le_of_ble_eq_true rfl) (cw_scopeAt _ hW hc (i := (u : Int)) ⟨by omega, by omega⟩) (fun v_28 h_28 q_28 => ?_)
    obtain ⟨q1_28, rfl⟩ := q_28
    · obtain rfl := scAt_P (by omega) q1_28
      rw [Int.toNat_natCast]
      refine r_astore_n (pc := 31) dX3_shutInner_31 (Nat.le_of_ble_eq_true rfl) (by first | rfl | exact isRefV_rf _) ?_
      dsimp only [lsSt, List.set, mLs, mEnt]
      refine r_aload_n (pc := 32) dX3_shutInner_32 rfl (by first | rfl | exact isRefV_rf _) ?_
      refine r_ifnull (pc := 33) (tgt := 51) dX3_shutInner_33 (by decide) (by first | rfl | exact isRefV_rf _) (fun c_33 => by cases c_33) (fun a_33 c_33 => ?_)
      refine r_aload_n (pc := 36) dX3_shutInner_36 rfl (by first | rfl | exact isRefV_rf _) ?_
      refine r_ifnull (pc := 37) (tgt := 51) dX3_shutInner_37 (by decide) (by first | rfl | exact isRefV_rf _) (fun c_37 => by cases c_37) (fun a_37 c_37 => ?_)
      refine r_aload_n (pc := 40) dX3_shutInner_40 rfl (by first | rfl | exact isRefV_rf _) ?_
      refine r_getf (pc := 41) dX3_shutInner_41 fX3_74 (by first | assumption | exact isI.gx (by assumption) | exact isI.gc (by assumption) | exact isW.gx (by assumption) | exact isW.gF (by assumption) | exact isW.gT (by assumption) (by omega) | exact isW.gS (by assumption) (by omega) | exact isW.gK (by assumption) (by omega) | exact isW.g1 (by assumption) | exact isW.g2 (by assumption) | exact isW.g3 (by assumption) | exact isI.gx (isW.i0 (by assumption)) | exact isI.gc (isW.i0 (by assumption)) | exact isI.gx (isW.i1 (by assumption)) | exact isI.gc (isW.i1 (by assumption)) | exact isI.gx (isW.i2 (by assumption)) | exact isI.gc (isW.i2 (by assumption)) | exact isI.gx (isW.i3 (by assumption)) | exact isI.gc (isW.i3 (by assumption)) | exact isI.gx (isW.i4 (by assumption)) | exact isI.gc (isW.i4 (by assumption)) | exact isI.gx (isW.i5 (by assumption)) | exact isI.gc (isW.i5 (by assumption)) | exact isR.gx (by assumption) | exact isRd.gx (by assumption) | exact isSp.gx (by assumption) | exact isI.gx (isR.i (by assumption)) | exact isI.gx (isRd.i (by assumption)) | exact isI.gc (isRd.i (by assumption)) | exact isI.gx (isSp.i (by assumption)) | exact isW.gx (isR.w (by assumption)) | exact isW.gF (isR.w (by assumption)) | fail "no such object") (by rfl) ?_
      refine r_aload_n (pc := 44) dX3_shutInner_44 rfl (by first | rfl | exact isRefV_rf _) ?_
      refine r_getf (pc := 45) dX3_shutInner_45 fX3_172 (by first | assumption | exact isI.gx (by assumption) | exact isI.gc (by assumption) | exact isW.gx (by assumption) | exact isW.gF (by assumption) | exact isW.gT (by assumption) (by omega) | exact isW.gS (by assumption) (by omega) | exact isW.gK (by assumption) (by omega) | exact isW.g1 (by assumption) | exact isW.g2 (by assumption) | exact isW.g3 (by assumption) | exact isI.gx (isW.i0 (by assumption)) | exact isI.gc (isW.i0 (by assumption)) | exact isI.gx (isW.i1 (by assumption)) | exact isI.gc (isW.i1 (by assumption)) | exact isI.gx (isW.i2 (by assumption)) | exact isI.gc (isW.i2 (by assumption)) | exact isI.gx (isW.i3 (by assumption)) | exact isI.gc (isW.i3 (by assumption)) | exact isI.gx (isW.i4 (by assumption)) | exact isI.gc (isW.i4 (by assumption)) | exact isI.gx (isW.i5 (by assumption)) | exact isI.gc (isW.i5 (by assumption)) | exact isR.gx (by assumption) | exact isRd.gx (by assumption) | exact isSp.gx (by assumption) | exact isI.gx (isR.i (by assumption)) | exact isI.gx (isRd.i (by assumption)) | exact isI.gc (isRd.i (by assumption)) | exact isI.gx (isSp.i (by assumption)) | exact isW.gx (isR.w (by assumption)) | exact isW.gF (isR.w (by assumption)) | fail "no such object") (by rfl) ?_
      refine rj_icmp_ne (pc := 48) (tgt := 53) dX3_shutInner_48 (by decide) (by first | exact b01_r | exact bz_r | omega | (constructor <;> omega) | apply_assumption | (apply atF_r; assumption) | fail "no range") (by first | exact b01_r | exact bz_r | omega | (constructor <;> omega) | apply_assumption | (apply atF_r; assumption) | fail "no range") (fun c_48 => ?_) (fun c_48 => ?_)
      · refine r_aload_n (pc := 53) dX3_shutInner_53 rfl (by first | rfl | exact isRefV_rf _) ?_
        refine r_getf (pc := 54) dX3_shutInner_54 fX3_107 (by first | assumption | exact isI.gx (by assumption) | exact isI.gc (by assumption) | exact isW.gx (by assumption) | exact isW.gF (by assumption) | exact isW.gT (by assumption) (by omega) | exact isW.gS (by assumption) (by omega) | exact isW.gK (by assumption) (by omega) | exact isW.g1 (by assumption) | exact isW.g2 (by assumption) | exact isW.g3 (by assumption) | exact isI.gx (isW.i0 (by assumption)) | exact isI.gc (isW.i0 (by assumption)) | exact isI.gx (isW.i1 (by assumption)) | exact isI.gc (isW.i1 (by assumption)) | exact isI.gx (isW.i2 (by assumption)) | exact isI.gc (isW.i2 (by assumption)) | exact isI.gx (isW.i3 (by assumption)) | exact isI.gc (isW.i3 (by assumption)) | exact isI.gx (isW.i4 (by assumption)) | exact isI.gc (isW.i4 (by assumption)) | exact isI.gx (isW.i5 (by assumption)) | exact isI.gc (isW.i5 (by assumption)) | exact isR.gx (by assumption) | exact isRd.gx (by assumption) | exact isSp.gx (by assumption) | exact isI.gx (isR.i (by assumption)) | exact isI.gx (isRd.i (by assumption)) | exact isI.gc (isRd.i (by assumption)) | exact isI.gx (isSp.i (by assumption)) | exact isW.gx (isR.w (by assumption)) | exact isW.gF (isR.w (by assumption)) | fail "no such object") (by rfl) ?_
        refine rj_if_ne (pc := 57) (tgt := 71) dX3_shutInner_57 (by decide) (by first | exact b01_r | exact bz_r | omega | (constructor <;> omega) | apply_assumption | (apply atF_r; assumption) | fail "no range") (fun c_57 => ?_) (fun c_57 => ?_)
        · try simp only [b01_0, bz_0, Classical.not_not] at c_57
          refine r_aload_n (pc := 71) dX3_shutInner_71 rfl (by first | rfl | exact isRefV_rf _) ?_
          refine r_aload_n (pc := 72) dX3_shutInner_72 rfl (by first | rfl | exact isRefV_rf _) ?_
          refine r_getf (pc := 73) dX3_shutInner_73 fX3_175 (by first | assumption | exact isI.gx (by assumption) | exact isI.gc (by assumption) | exact isW.gx (by assumption) | exact isW.gF (by assumption) | exact isW.gT (by assumption) (by omega) | exact isW.gS (by assumption) (by omega) | exact isW.gK (by assumption) (by omega) | exact isW.g1 (by assumption) | exact isW.g2 (by assumption) | exact isW.g3 (by assumption) | exact isI.gx (isW.i0 (by assumption)) | exact isI.gc (isW.i0 (by assumption)) | exact isI.gx (isW.i1 (by assumption)) | exact isI.gc (isW.i1 (by assumption)) | exact isI.gx (isW.i2 (by assumption)) | exact isI.gc (isW.i2 (by assumption)) | exact isI.gx (isW.i3 (by assumption)) | exact isI.gc (isW.i3 (by assumption)) | exact isI.gx (isW.i4 (by assumption)) | exact isI.gc (isW.i4 (by assumption)) | exact isI.gx (isW.i5 (by assumption)) | exact isI.gc (isW.i5 (by assumption)) | exact isR.gx (by assumption) | exact isRd.gx (by assumption) | exact isSp.gx (by assumption) | exact isI.gx (isR.i (by assumption)) | exact isI.gx (isRd.i (by assumption)) | exact isI.gc (isRd.i (by assumption)) | exact isI.gx (isSp.i (by assumption)) | exact isW.gx (isR.w (by assumption)) | exact isW.gF (isR.w (by assumption)) | fail "no such object") (by rfl) ?_
          try rw [updI_n (show 305 + 3 * u ≠ 304 + 3 * u by omega)]
          refine rc_putK8 (pc := 76) dX3_shutInner_76 fX3_74 (by assumption) (by omega) (fun h_76 hW_76 hS_76 => ?_)
          refine rj_iconst (pc := 79) dX3_shutInner_79 ?_
          refine r_ireturn (pc := 80) .int dX3_shutInner_80 rfl (by first | rfl | assumption) ?_
          first | exact ⟨rfl, Or.inr ⟨c_57, (hR.ofWr hS_76 hW_76).1⟩, (hR.ofWr hS_76 hW_76).2⟩ | exact ⟨rfl, Or.inl ⟨c_57, (hR_68.ofWr hS_76 hW_76).1⟩, S_68.trans (hR_68.ofWr hS_76 hW_76).2⟩
        · try simp only [b01_0, bz_0, Classical.not_not] at c_57
          refine r_aload_n (pc := 60) dX3_shutInner_60 rfl (by first | rfl | exact isRefV_rf _) ?_
          refine rj_bipush (pc := 61) dX3_shutInner_61 (by decide +kernel) ?_
          refine r_aload_n (pc := 63) dX3_shutInner_63 rfl (by first | rfl | exact isRefV_rf _) ?_
          refine r_getf (pc := 64) dX3_shutInner_64 fX3_74 (by first | assumption | exact isI.gx (by assumption) | exact isI.gc (by assumption) | exact isW.gx (by assumption) | exact isW.gF (by assumption) | exact isW.gT (by assumption) (by omega) | exact isW.gS (by assumption) (by omega) | exact isW.gK (by assumption) (by omega) | exact isW.g1 (by assumption) | exact isW.g2 (by assumption) | exact isW.g3 (by assumption) | exact isI.gx (isW.i0 (by assumption)) | exact isI.gc (isW.i0 (by assumption)) | exact isI.gx (isW.i1 (by assumption)) | exact isI.gc (isW.i1 (by assumption)) | exact isI.gx (isW.i2 (by assumption)) | exact isI.gc (isW.i2 (by assumption)) | exact isI.gx (isW.i3 (by assumption)) | exact isI.gc (isW.i3 (by assumption)) | exact isI.gx (isW.i4 (by assumption)) | exact isI.gc (isW.i4 (by assumption)) | exact isI.gx (isW.i5 (by assumption)) | exact isI.gc (isW.i5 (by assumption)) | exact isR.gx (by assumption) | exact isRd.gx (by assumption) | exact isSp.gx (by assumption) | exact isI.gx (isR.i (by assumption)) | exact isI.gx (isRd.i (by assumption)) | exact isI.gc (isRd.i (by assumption)) | exact isI.gx (isSp.i (by assumption)) | exact isW.gx (isR.w (by assumption)) | exact isW.gF (isR.w (by assumption)) | fail "no such object") (by rfl) ?_
          refine rj_iadd (pc := 67) dX3_shutInner_67 ?_
          rw [hu]
          refine r_callV1 (pc := 68) dX3_shutInner_68 qX3_beginToEnd kX3_40 vX3_beginToEnd (by first | assumption | exact isI.gx (by assumption) | exact isI.gc (by assumption) | exact isW.gx (by assumption) | exact isW.gF (by assumption) | exact isW.gT (by assumption) (by omega) | exact isW.gS (by assumption) (by omega) | exact isW.gK (by assumption) (by omega) | exact isW.g1 (by assumption) | exact isW.g2 (by assumption) | exact isW.g3 (by assumption) | exact isI.gx (isW.i0 (by assumption)) | exact isI.gc (isW.i0 (by assumption)) | exact isI.gx (isW.i1 (by assumption)) | exact isI.gc (isW.i1 (by assumption)) | exact isI.gx (isW.i2 (by assumption)) | exact isI.gc (isW.i2 (by assumption)) | exact isI.gx (isW.i3 (by assumption)) | exact isI.gc (isW.i3 (by assumption)) | exact isI.gx (isW.i4 (by assumption)) | exact isI.gc (isW.i4 (by assumption)) | exact isI.gx (isW.i5 (by assumption)) | exact isI.gc (isW.i5 (by assumption)) | exact isR.gx (by assumption) | exact isRd.gx (by assumption) | exact isSp.gx (by assumption) | exact isI.gx (isR.i (by assumption)) | exact isI.gx (isRd.i (by assumption)) | exact isI.gc (isRd.i (by assumption)) | exact isI.gx (isSp.i (by assumption)) | exact isW.gx (isR.w (by assumption)) | exact isW.gF (isR.w (by assumption)) | fail "no such object") rfl rfl (Nat.le_of_ble_eq_true rfl) (cr_beginS _ hR hc hz0 hu1 hu2) (fun v_68 h_68 q_68 => ?_)
          obtain ⟨rfl, hR_68, S_68⟩ := q_68
          have hW := hR_68.w
          refine r_aload_n (pc := 71) dX3_shutInner_71 rfl (by first | rfl | exact isRefV_rf _) ?_
          refine r_aload_n (pc := 72) dX3_shutInner_72 rfl (by first | rfl | exact isRefV_rf _) ?_
          refine r_getf (pc := 73) dX3_shutInner_73 fX3_175 (by first | assumption | exact isI.gx (by assumption) | exact isI.gc (by assumption) | exact isW.gx (by assumption) | exact isW.gF (by assumption) | exact isW.gT (by assumption) (by omega) | exact isW.gS (by assumption) (by omega) | exact isW.gK (by assumption) (by omega) | exact isW.g1 (by assumption) | exact isW.g2 (by assumption) | exact isW.g3 (by assumption) | exact isI.gx (isW.i0 (by assumption)) | exact isI.gc (isW.i0 (by assumption)) | exact isI.gx (isW.i1 (by assumption)) | exact isI.gc (isW.i1 (by assumption)) | exact isI.gx (isW.i2 (by assumption)) | exact isI.gc (isW.i2 (by assumption)) | exact isI.gx (isW.i3 (by assumption)) | exact isI.gc (isW.i3 (by assumption)) | exact isI.gx (isW.i4 (by assumption)) | exact isI.gc (isW.i4 (by assumption)) | exact isI.gx (isW.i5 (by assumption)) | exact isI.gc (isW.i5 (by assumption)) | exact isR.gx (by assumption) | exact isRd.gx (by assumption) | exact isSp.gx (by assumption) | exact isI.gx (isR.i (by assumption)) | exact isI.gx (isRd.i (by assumption)) | exact isI.gc (isRd.i (by assumption)) | exact isI.gx (isSp.i (by assumption)) | exact isW.gx (isR.w (by assumption)) | exact isW.gF (isR.w (by assumption)) | fail "no such object") (by rfl) ?_
          try rw [updI_n (show 305 + 3 * u ≠ 304 + 3 * u by omega)]
          refine rc_putK8 (pc := 76) dX3_shutInner_76 fX3_74 (by assumption) (by omega) (fun h_76 hW_76 hS_76 => ?_)
          refine rj_iconst (pc := 79) dX3_shutInner_79 ?_
          refine r_ireturn (pc := 80) .int dX3_shutInner_80 rfl (by first | rfl | assumption) ?_
          first | exact ⟨rfl, Or.inr ⟨c_57, (hR.ofWr hS_76 hW_76).1⟩, (hR.ofWr hS_76 hW_76).2⟩ | exact ⟨rfl, Or.inl ⟨c_57, (hR_68.ofWr hS_76 hW_76).1⟩, S_68.trans (hR_68.ofWr hS_76 hW_76).2⟩
      · exfalso
        first | omega | exact absurd trivial ‹¬ True›
end mg_99
section mg_9a
/-! ===== the class: a step by its kind ===== -/
set_option maxHeartbeats 4000000 in
set_option maxRecDepth 100000 in
theorem pf_sw {G : mG} {l : Launch} (d : Nat) {h : mH} {r s s0 : Nat} {kd num vl i : Int} {y : Int64} {inn nx : Option Nat} (hs : hGet h s = some (stO kd num vl y inn nx)) (hkr : InR kd) {Q : Option Value → mH → Prop} (T : ∀ tgt : Nat, ((kd = 43 ∧ tgt = 124) ∨ (kd = 33 ∧ tgt = 159) ∨ (kd = 97 ∧ tgt = 164) ∨ (kd = 120 ∧ tgt = 171) ∨ (kd = 109 ∧ tgt = 180) ∨ (kd = 107 ∧ tgt = 193) ∨ (kd = 40 ∧ tgt = 202) ∨ (kd = 41 ∧ tgt = 207) ∨ ((¬ kd = 43 ∧ ¬ kd = 33 ∧ ¬ kd = 97 ∧ ¬ kd = 120 ∧ ¬ kd = 109 ∧ ¬ kd = 107 ∧ ¬ kd = 40 ∧ ¬ kd = 41) ∧ tgt = 212)) → RUN G l d mX3_perform tgt [some (.ref r), some (.ref s0), some (.int (J i)), some (.ref s)] [] h Q) : RUN G l d mX3_perform 41 [some (.ref r), some (.ref s0), some (.int (J i)), some (.ref s)] [] h Q := by
  have s_u := hs
  unfold stO at s_u
  refine r_aload_n (pc := 41) dX3_perform_41 rfl (by first | rfl | exact isRefV_rf _) ?_
  refine r_ifnonnull (pc := 42) (tgt := 47) dX3_perform_42 (by decide) (by first | rfl | exact isRefV_rf _) (fun a_42 c_42 => ?_) (fun c_42 => by cases c_42)
  refine r_aload_n (pc := 47) dX3_perform_47 rfl (by first | rfl | exact isRefV_rf _) ?_
  refine r_getf (pc := 48) dX3_perform_48 fX3_169 (by first | assumption | exact isI.gx (by assumption) | exact isI.gc (by assumption) | exact isW.gx (by assumption) | exact isW.gF (by assumption) | exact isW.gT (by assumption) (by omega) | exact isW.gS (by assumption) (by omega) | exact isW.gK (by assumption) (by omega) | exact isW.g1 (by assumption) | exact isW.g2 (by assumption) | exact isW.g3 (by assumption) | exact isI.gx (isW.i0 (by assumption)) | exact isI.gc (isW.i0 (by assumption)) | exact isI.gx (isW.i1 (by assumption)) | exact isI.gc (isW.i1 (by assumption)) | exact isI.gx (isW.i2 (by assumption)) | exact isI.gc (isW.i2 (by assumption)) | exact isI.gx (isW.i3 (by assumption)) | exact isI.gc (isW.i3 (by assumption)) | exact isI.gx (isW.i4 (by assumption)) | exact isI.gc (isW.i4 (by assumption)) | exact isI.gx (isW.i5 (by assumption)) | exact isI.gc (isW.i5 (by assumption)) | exact isR.gx (by assumption) | exact isRd.gx (by assumption) | exact isSp.gx (by assumption) | exact isI.gx (isR.i (by assumption)) | exact isI.gx (isRd.i (by assumption)) | exact isI.gc (isRd.i (by assumption)) | exact isI.gx (isSp.i (by assumption)) | exact isW.gx (isR.w (by assumption)) | exact isW.gF (isR.w (by assumption)) | fail "no such object") (by rfl) ?_
  refine rj_lsw (pc := 51) dX3_perform_51 rfl (by first | exact b01_r | exact bz_r | omega | (constructor <;> omega) | apply_assumption | (apply atF_r; assumption) | fail "no range") (lsw_pos _ (by decide +kernel) (by decide +kernel)) (fun off_51 tgt_51 ho_51 ht_51 => ?_)
  simp only [Op.lookupswitch.offset_cons, Op.lookupswitch.offset_nil] at ho_51
  by_cases e_51_33 : (33 : Int) = kd
  · rw [if_pos e_51_33] at ho_51
    obtain rfl : tgt_51 = 159 := by omega
    exact T _ (by omega)
  rw [if_neg e_51_33] at ho_51
  by_cases e_51_40 : (40 : Int) = kd
  · rw [if_pos e_51_40] at ho_51
    obtain rfl : tgt_51 = 202 := by omega
    exact T _ (by omega)
  rw [if_neg e_51_40] at ho_51
  by_cases e_51_41 : (41 : Int) = kd
  · rw [if_pos e_51_41] at ho_51
    obtain rfl : tgt_51 = 207 := by omega
    exact T _ (by omega)
  rw [if_neg e_51_41] at ho_51
  by_cases e_51_43 : (43 : Int) = kd
  · rw [if_pos e_51_43] at ho_51
    obtain rfl : tgt_51 = 124 := by omega
    exact T _ (by omega)
  rw [if_neg e_51_43] at ho_51
  by_cases e_51_97 : (97 : Int) = kd
  · rw [if_pos e_51_97] at ho_51
    obtain rfl : tgt_51 = 164 := by omega
    exact T _ (by omega)
  rw [if_neg e_51_97] at ho_51
  by_cases e_51_107 : (107 : Int) = kd
  · rw [if_pos e_51_107] at ho_51
    obtain rfl : tgt_51 = 193 := by omega
    exact T _ (by omega)
  rw [if_neg e_51_107] at ho_51
  by_cases e_51_109 : (109 : Int) = kd
  · rw [if_pos e_51_109] at ho_51
    obtain rfl : tgt_51 = 180 := by omega
    exact T _ (by omega)
  rw [if_neg e_51_109] at ho_51
  by_cases e_51_120 : (120 : Int) = kd
  · rw [if_pos e_51_120] at ho_51
    obtain rfl : tgt_51 = 171 := by omega
    exact T _ (by omega)
  rw [if_neg e_51_120] at ho_51
  obtain rfl : tgt_51 = 212 := by omega
  exact T _ (by omega)
set_option maxHeartbeats 4000000 in
set_option maxRecDepth 100000 in
theorem pf_plus {G : mG} {l : Launch} (d : Nat) {h : mH} {r : Nat} {b z : Int} {f : Nat → Int} {c : Nat → Int} {C : Nat → Nat → Int} {nm : Nat → Int64} {g : Nat → Option Nat} (hR : isR h r b z f c C nm g) (hc : ∀ q, InR (c q)) {s s0 : Nat} {kd num vl : Int} {y : Int64} {inn nx : Option Nat} (hs : hGet h s = some (stO kd num vl y inn nx)) (hkd : kd = 43) {i : Int} (h8 : c 8 = 8) (hC0 : ∀ q, InR (C 0 q)) {k : Nat} (hk : num = (k : Int)) (hk7 : k < 8) : RUN G l (d + 2) mX3_perform 41 [some (.ref r), some (.ref s0), some (.int (J i)), some (.ref s)] [] h (fun v h' => v = some (.int (J 0)) ∧ isR h' r b z f c (updC C 0 (updI (C 0) k (wrap (C 0 k + vl)))) nm g ∧ Same (rBlk r) h h') := by
  refine pf_sw (d + 2) hs ⟨by omega, by omega⟩ (fun tgt ht => ?_)
  obtain rfl : tgt = 124 := by omega
  have s_u := hs
  unfold stO at s_u
  subst hk
  refine r_aload_n (pc := 124) dX3_perform_124 rfl (by first | rfl | exact isRefV_rf _) ?_
  refine r_getf (pc := 125) dX3_perform_125 fX3_12 (by first | assumption | exact isI.gx (by assumption) | exact isI.gc (by assumption) | exact isW.gx (by assumption) | exact isW.gF (by assumption) | exact isW.gT (by assumption) (by omega) | exact isW.gS (by assumption) (by omega) | exact isW.gK (by assumption) (by omega) | exact isW.g1 (by assumption) | exact isW.g2 (by assumption) | exact isW.g3 (by assumption) | exact isI.gx (isW.i0 (by assumption)) | exact isI.gc (isW.i0 (by assumption)) | exact isI.gx (isW.i1 (by assumption)) | exact isI.gc (isW.i1 (by assumption)) | exact isI.gx (isW.i2 (by assumption)) | exact isI.gc (isW.i2 (by assumption)) | exact isI.gx (isW.i3 (by assumption)) | exact isI.gc (isW.i3 (by assumption)) | exact isI.gx (isW.i4 (by assumption)) | exact isI.gc (isW.i4 (by assumption)) | exact isI.gx (isW.i5 (by assumption)) | exact isI.gc (isW.i5 (by assumption)) | exact isR.gx (by assumption) | exact isRd.gx (by assumption) | exact isSp.gx (by assumption) | exact isI.gx (isR.i (by assumption)) | exact isI.gx (isRd.i (by assumption)) | exact isI.gc (isRd.i (by assumption)) | exact isI.gx (isSp.i (by assumption)) | exact isW.gx (isR.w (by assumption)) | exact isW.gF (isR.w (by assumption)) | fail "no such object") (by rfl) ?_
  refine r_getf (pc := 128) dX3_perform_128 fX3_178 (by first | assumption | exact isI.gx (by assumption) | exact isI.gc (by assumption) | exact isW.gx (by assumption) | exact isW.gF (by assumption) | exact isW.gT (by assumption) (by omega) | exact isW.gS (by assumption) (by omega) | exact isW.gK (by assumption) (by omega) | exact isW.g1 (by assumption) | exact isW.g2 (by assumption) | exact isW.g3 (by assumption) | exact isI.gx (isW.i0 (by assumption)) | exact isI.gc (isW.i0 (by assumption)) | exact isI.gx (isW.i1 (by assumption)) | exact isI.gc (isW.i1 (by assumption)) | exact isI.gx (isW.i2 (by assumption)) | exact isI.gc (isW.i2 (by assumption)) | exact isI.gx (isW.i3 (by assumption)) | exact isI.gc (isW.i3 (by assumption)) | exact isI.gx (isW.i4 (by assumption)) | exact isI.gc (isW.i4 (by assumption)) | exact isI.gx (isW.i5 (by assumption)) | exact isI.gc (isW.i5 (by assumption)) | exact isR.gx (by assumption) | exact isRd.gx (by assumption) | exact isSp.gx (by assumption) | exact isI.gx (isR.i (by assumption)) | exact isI.gx (isRd.i (by assumption)) | exact isI.gc (isRd.i (by assumption)) | exact isI.gx (isSp.i (by assumption)) | exact isW.gx (isR.w (by assumption)) | exact isW.gF (isR.w (by assumption)) | fail "no such object") (by rfl) ?_
  refine r_aload_n (pc := 131) dX3_perform_131 rfl (by first | rfl | exact isRefV_rf _) ?_
  refine r_getf (pc := 132) dX3_perform_132 fX3_181 (by first | assumption | exact isI.gx (by assumption) | exact isI.gc (by assumption) | exact isW.gx (by assumption) | exact isW.gF (by assumption) | exact isW.gT (by assumption) (by omega) | exact isW.gS (by assumption) (by omega) | exact isW.gK (by assumption) (by omega) | exact isW.g1 (by assumption) | exact isW.g2 (by assumption) | exact isW.g3 (by assumption) | exact isI.gx (isW.i0 (by assumption)) | exact isI.gc (isW.i0 (by assumption)) | exact isI.gx (isW.i1 (by assumption)) | exact isI.gc (isW.i1 (by assumption)) | exact isI.gx (isW.i2 (by assumption)) | exact isI.gc (isW.i2 (by assumption)) | exact isI.gx (isW.i3 (by assumption)) | exact isI.gc (isW.i3 (by assumption)) | exact isI.gx (isW.i4 (by assumption)) | exact isI.gc (isW.i4 (by assumption)) | exact isI.gx (isW.i5 (by assumption)) | exact isI.gc (isW.i5 (by assumption)) | exact isR.gx (by assumption) | exact isRd.gx (by assumption) | exact isSp.gx (by assumption) | exact isI.gx (isR.i (by assumption)) | exact isI.gx (isRd.i (by assumption)) | exact isI.gc (isRd.i (by assumption)) | exact isI.gx (isSp.i (by assumption)) | exact isW.gx (isR.w (by assumption)) | exact isW.gF (isR.w (by assumption)) | fail "no such object") (by rfl) ?_
  refine r_aload_n (pc := 135) dX3_perform_135 rfl (by first | rfl | exact isRefV_rf _) ?_
  refine r_getf (pc := 136) dX3_perform_136 fX3_12 (by first | assumption | exact isI.gx (by assumption) | exact isI.gc (by assumption) | exact isW.gx (by assumption) | exact isW.gF (by assumption) | exact isW.gT (by assumption) (by omega) | exact isW.gS (by assumption) (by omega) | exact isW.gK (by assumption) (by omega) | exact isW.g1 (by assumption) | exact isW.g2 (by assumption) | exact isW.g3 (by assumption) | exact isI.gx (isW.i0 (by assumption)) | exact isI.gc (isW.i0 (by assumption)) | exact isI.gx (isW.i1 (by assumption)) | exact isI.gc (isW.i1 (by assumption)) | exact isI.gx (isW.i2 (by assumption)) | exact isI.gc (isW.i2 (by assumption)) | exact isI.gx (isW.i3 (by assumption)) | exact isI.gc (isW.i3 (by assumption)) | exact isI.gx (isW.i4 (by assumption)) | exact isI.gc (isW.i4 (by assumption)) | exact isI.gx (isW.i5 (by assumption)) | exact isI.gc (isW.i5 (by assumption)) | exact isR.gx (by assumption) | exact isRd.gx (by assumption) | exact isSp.gx (by assumption) | exact isI.gx (isR.i (by assumption)) | exact isI.gx (isRd.i (by assumption)) | exact isI.gc (isRd.i (by assumption)) | exact isI.gx (isSp.i (by assumption)) | exact isW.gx (isR.w (by assumption)) | exact isW.gF (isR.w (by assumption)) | fail "no such object") (by rfl) ?_
  refine r_getf (pc := 139) dX3_perform_139 fX3_178 (by first | assumption | exact isI.gx (by assumption) | exact isI.gc (by assumption) | exact isW.gx (by assumption) | exact isW.gF (by assumption) | exact isW.gT (by assumption) (by omega) | exact isW.gS (by assumption) (by omega) | exact isW.gK (by assumption) (by omega) | exact isW.g1 (by assumption) | exact isW.g2 (by assumption) | exact isW.g3 (by assumption) | exact isI.gx (isW.i0 (by assumption)) | exact isI.gc (isW.i0 (by assumption)) | exact isI.gx (isW.i1 (by assumption)) | exact isI.gc (isW.i1 (by assumption)) | exact isI.gx (isW.i2 (by assumption)) | exact isI.gc (isW.i2 (by assumption)) | exact isI.gx (isW.i3 (by assumption)) | exact isI.gc (isW.i3 (by assumption)) | exact isI.gx (isW.i4 (by assumption)) | exact isI.gc (isW.i4 (by assumption)) | exact isI.gx (isW.i5 (by assumption)) | exact isI.gc (isW.i5 (by assumption)) | exact isR.gx (by assumption) | exact isRd.gx (by assumption) | exact isSp.gx (by assumption) | exact isI.gx (isR.i (by assumption)) | exact isI.gx (isRd.i (by assumption)) | exact isI.gc (isRd.i (by assumption)) | exact isI.gx (isSp.i (by assumption)) | exact isW.gx (isR.w (by assumption)) | exact isW.gF (isR.w (by assumption)) | fail "no such object") (by rfl) ?_
  refine r_aload_n (pc := 142) dX3_perform_142 rfl (by first | rfl | exact isRefV_rf _) ?_
  refine r_getf (pc := 143) dX3_perform_143 fX3_181 (by first | assumption | exact isI.gx (by assumption) | exact isI.gc (by assumption) | exact isW.gx (by assumption) | exact isW.gF (by assumption) | exact isW.gT (by assumption) (by omega) | exact isW.gS (by assumption) (by omega) | exact isW.gK (by assumption) (by omega) | exact isW.g1 (by assumption) | exact isW.g2 (by assumption) | exact isW.g3 (by assumption) | exact isI.gx (isW.i0 (by assumption)) | exact isI.gc (isW.i0 (by assumption)) | exact isI.gx (isW.i1 (by assumption)) | exact isI.gc (isW.i1 (by assumption)) | exact isI.gx (isW.i2 (by assumption)) | exact isI.gc (isW.i2 (by assumption)) | exact isI.gx (isW.i3 (by assumption)) | exact isI.gc (isW.i3 (by assumption)) | exact isI.gx (isW.i4 (by assumption)) | exact isI.gc (isW.i4 (by assumption)) | exact isI.gx (isW.i5 (by assumption)) | exact isI.gc (isW.i5 (by assumption)) | exact isR.gx (by assumption) | exact isRd.gx (by assumption) | exact isSp.gx (by assumption) | exact isI.gx (isR.i (by assumption)) | exact isI.gx (isRd.i (by assumption)) | exact isI.gc (isRd.i (by assumption)) | exact isI.gx (isSp.i (by assumption)) | exact isW.gx (isR.w (by assumption)) | exact isW.gF (isR.w (by assumption)) | fail "no such object") (by rfl) ?_
  have i0 := hR.w.i0
  rw [h8] at i0
  have y0 := ci_at (G := G) (l := l) d i0 (by decide) (by decide) (i := (k : Int)) ⟨by omega, by omega⟩
  rw [atF_t (by omega) (by omega)] at y0
  refine r_callV1 (pc := 146) dX3_perform_146 qX1_at kX3_91 vX1_at (by first | assumption | exact isI.gx (by assumption) | exact isI.gc (by assumption) | exact isW.gx (by assumption) | exact isW.gF (by assumption) | exact isW.gT (by assumption) (by omega) | exact isW.gS (by assumption) (by omega) | exact isW.gK (by assumption) (by omega) | exact isW.g1 (by assumption) | exact isW.g2 (by assumption) | exact isW.g3 (by assumption) | exact isI.gx (isW.i0 (by assumption)) | exact isI.gc (isW.i0 (by assumption)) | exact isI.gx (isW.i1 (by assumption)) | exact isI.gc (isW.i1 (by assumption)) | exact isI.gx (isW.i2 (by assumption)) | exact isI.gc (isW.i2 (by assumption)) | exact isI.gx (isW.i3 (by assumption)) | exact isI.gc (isW.i3 (by assumption)) | exact isI.gx (isW.i4 (by assumption)) | exact isI.gc (isW.i4 (by assumption)) | exact isI.gx (isW.i5 (by assumption)) | exact isI.gc (isW.i5 (by assumption)) | exact isR.gx (by assumption) | exact isRd.gx (by assumption) | exact isSp.gx (by assumption) | exact isI.gx (isR.i (by assumption)) | exact isI.gx (isRd.i (by assumption)) | exact isI.gc (isRd.i (by assumption)) | exact isI.gx (isSp.i (by assumption)) | exact isW.gx (isR.w (by assumption)) | exact isW.gF (isR.w (by assumption)) | fail "no such object") rfl rfl (Nat.le_of_ble_eq_true rfl) (y0) (fun v_146 h_146 q_146 => ?_)
  obtain ⟨rfl, rfl⟩ := q_146
  have i0 := hR.w.i0
  rw [h8] at i0
  refine r_aload_n (pc := 149) dX3_perform_149 rfl (by first | rfl | exact isRefV_rf _) ?_
  refine r_getf (pc := 150) dX3_perform_150 fX3_184 (by first | assumption | exact isI.gx (by assumption) | exact isI.gc (by assumption) | exact isW.gx (by assumption) | exact isW.gF (by assumption) | exact isW.gT (by assumption) (by omega) | exact isW.gS (by assumption) (by omega) | exact isW.gK (by assumption) (by omega) | exact isW.g1 (by assumption) | exact isW.g2 (by assumption) | exact isW.g3 (by assumption) | exact isI.gx (isW.i0 (by assumption)) | exact isI.gc (isW.i0 (by assumption)) | exact isI.gx (isW.i1 (by assumption)) | exact isI.gc (isW.i1 (by assumption)) | exact isI.gx (isW.i2 (by assumption)) | exact isI.gc (isW.i2 (by assumption)) | exact isI.gx (isW.i3 (by assumption)) | exact isI.gc (isW.i3 (by assumption)) | exact isI.gx (isW.i4 (by assumption)) | exact isI.gc (isW.i4 (by assumption)) | exact isI.gx (isW.i5 (by assumption)) | exact isI.gc (isW.i5 (by assumption)) | exact isR.gx (by assumption) | exact isRd.gx (by assumption) | exact isSp.gx (by assumption) | exact isI.gx (isR.i (by assumption)) | exact isI.gx (isRd.i (by assumption)) | exact isI.gc (isRd.i (by assumption)) | exact isI.gx (isSp.i (by assumption)) | exact isW.gx (isR.w (by assumption)) | exact isW.gF (isR.w (by assumption)) | fail "no such object") (by rfl) ?_
  refine rj_iadd (pc := 153) dX3_perform_153 ?_
  rw [J_wrap (C 0 k + vl)]
  have y1 := ci_put (G := G) (l := l) d i0 (by decide) (by decide) (i := (k : Int)) ⟨by omega, by omega⟩ (wrap (C 0 k + vl))
  refine r_callV2 (pc := 154) dX3_perform_154 qX1_put kX3_189 vX1_put (by first | assumption | exact isI.gx (by assumption) | exact isI.gc (by assumption) | exact isW.gx (by assumption) | exact isW.gF (by assumption) | exact isW.gT (by assumption) (by omega) | exact isW.gS (by assumption) (by omega) | exact isW.gK (by assumption) (by omega) | exact isW.g1 (by assumption) | exact isW.g2 (by assumption) | exact isW.g3 (by assumption) | exact isI.gx (isW.i0 (by assumption)) | exact isI.gc (isW.i0 (by assumption)) | exact isI.gx (isW.i1 (by assumption)) | exact isI.gc (isW.i1 (by assumption)) | exact isI.gx (isW.i2 (by assumption)) | exact isI.gc (isW.i2 (by assumption)) | exact isI.gx (isW.i3 (by assumption)) | exact isI.gc (isW.i3 (by assumption)) | exact isI.gx (isW.i4 (by assumption)) | exact isI.gc (isW.i4 (by assumption)) | exact isI.gx (isW.i5 (by assumption)) | exact isI.gc (isW.i5 (by assumption)) | exact isR.gx (by assumption) | exact isRd.gx (by assumption) | exact isSp.gx (by assumption) | exact isI.gx (isR.i (by assumption)) | exact isI.gx (isRd.i (by assumption)) | exact isI.gc (isRd.i (by assumption)) | exact isI.gx (isSp.i (by assumption)) | exact isW.gx (isR.w (by assumption)) | exact isW.gF (isR.w (by assumption)) | fail "no such object") rfl rfl (Nat.le_of_ble_eq_true rfl) (y1) (fun v_154 h_154 q_154 => ?_)
  obtain ⟨rfl, I_154, S_154⟩ := q_154
  have e1 : putF 8 8 (C 0) (k : Int) (wrap (C 0 k + vl)) = updI (C 0) k (wrap (C 0 k + vl)) := by unfold putF; rw [if_pos ⟨by omega, by omega, by omega⟩]; rfl
  rw [e1, ← h8] at I_154
  have W_154 := hR.w.ofI (j := 0) (by decide) S_154 I_154
  rw [show (8 + 0 : Nat) = 8 from rfl, updI_id] at W_154
  have R_154 := hR.ofWr (S_154.mono (fun q hq => iBlk_wBlk (j := 0) hq)) W_154
  refine rj_iconst (pc := 157) dX3_perform_157 ?_
  refine r_ireturn (pc := 158) .int dX3_perform_158 rfl (by first | rfl | assumption) ?_
  exact ⟨rfl, R_154.1, R_154.2⟩
set_option maxHeartbeats 4000000 in
set_option maxRecDepth 100000 in
theorem pf_bang {G : mG} {l : Launch} (d : Nat) {h : mH} {r : Nat} {b z : Int} {f : Nat → Int} {c : Nat → Int} {C : Nat → Nat → Int} {nm : Nat → Int64} {g : Nat → Option Nat} (hR : isR h r b z f c C nm g) (hc : ∀ q, InR (c q)) {s s0 : Nat} {kd num vl : Int} {y : Int64} {inn nx : Option Nat} (hs : hGet h s = some (stO kd num vl y inn nx)) (hkd : kd = 33) {i : Int} : RUN G l (d) mX3_perform 41 [some (.ref r), some (.ref s0), some (.int (J i)), some (.ref s)] [] h (fun v h' => v = some (.int (J num)) ∧ h' = h) := by
  refine pf_sw (d) hs ⟨by omega, by omega⟩ (fun tgt ht => ?_)
  obtain rfl : tgt = 159 := by omega
  have s_u := hs
  unfold stO at s_u
  refine r_aload_n (pc := 159) dX3_perform_159 rfl (by first | rfl | exact isRefV_rf _) ?_
  refine r_getf (pc := 160) dX3_perform_160 fX3_181 (by first | assumption | exact isI.gx (by assumption) | exact isI.gc (by assumption) | exact isW.gx (by assumption) | exact isW.gF (by assumption) | exact isW.gT (by assumption) (by omega) | exact isW.gS (by assumption) (by omega) | exact isW.gK (by assumption) (by omega) | exact isW.g1 (by assumption) | exact isW.g2 (by assumption) | exact isW.g3 (by assumption) | exact isI.gx (isW.i0 (by assumption)) | exact isI.gc (isW.i0 (by assumption)) | exact isI.gx (isW.i1 (by assumption)) | exact isI.gc (isW.i1 (by assumption)) | exact isI.gx (isW.i2 (by assumption)) | exact isI.gc (isW.i2 (by assumption)) | exact isI.gx (isW.i3 (by assumption)) | exact isI.gc (isW.i3 (by assumption)) | exact isI.gx (isW.i4 (by assumption)) | exact isI.gc (isW.i4 (by assumption)) | exact isI.gx (isW.i5 (by assumption)) | exact isI.gc (isW.i5 (by assumption)) | exact isR.gx (by assumption) | exact isRd.gx (by assumption) | exact isSp.gx (by assumption) | exact isI.gx (isR.i (by assumption)) | exact isI.gx (isRd.i (by assumption)) | exact isI.gc (isRd.i (by assumption)) | exact isI.gx (isSp.i (by assumption)) | exact isW.gx (isR.w (by assumption)) | exact isW.gF (isR.w (by assumption)) | fail "no such object") (by rfl) ?_
  refine r_ireturn (pc := 163) .int dX3_perform_163 rfl (by first | rfl | assumption) ?_
  exact ⟨rfl, rfl⟩
set_option maxHeartbeats 4000000 in
set_option maxRecDepth 100000 in
theorem pf_take {G : mG} {l : Launch} (d : Nat) {h : mH} {r : Nat} {b z : Int} {f : Nat → Int} {c : Nat → Int} {C : Nat → Nat → Int} {nm : Nat → Int64} {g : Nat → Option Nat} (hR : isR h r b z f c C nm g) (hc : ∀ q, InR (c q)) {s s0 : Nat} {kd num vl : Int} {y : Int64} {inn nx : Option Nat} (hs : hGet h s = some (stO kd num vl y inn nx)) (hkd : kd = 97) {i : Int} {N : Nat} (hN : c 0 = (N : Int)) (hcap : N ≤ 90) {Z : Nat} (hZ : c 10 = (Z : Int)) (hcapZ : Z < 150) (hsr : ¬ rBlk r s) (hi : InR i) : RUN G l (d + 4) mX3_perform 41 [some (.ref r), some (.ref s0), some (.int (J i)), some (.ref s)] [] h (fun v h' => (¬ opP c i ∧ v = some (.int (J 101)) ∧ h' = h) ∨ (opP c i ∧ 0 ≤ hnL c nm y N 0 ∧ v = some (.int (J 102)) ∧ h' = h) ∨ (opP c i ∧ hnL c nm y N 0 < 0 ∧ 90 ≤ N ∧ v = some (.int (J 103)) ∧ h' = h) ∨ (opP c i ∧ hnL c nm y N 0 < 0 ∧ N < 90 ∧ v = some (.int (J 0)) ∧ isR h' r b z f (adE (adC c N i) Z) (updC C 2 (updI (C 2) Z (N : Int))) (updL nm N y) (updO g (2 * N) inn) ∧ Same (rBlk r) h h')) := by
  refine pf_sw (d + 4) hs ⟨by omega, by omega⟩ (fun tgt ht => ?_)
  obtain rfl : tgt = 164 := by omega
  have s_u := hs
  unfold stO at s_u
  refine r_aload_n (pc := 164) dX3_perform_164 rfl (by first | rfl | exact isRefV_rf _) ?_
  refine r_iload_n (pc := 165) dX3_perform_165 rfl ?_
  refine r_aload_n (pc := 166) dX3_perform_166 rfl (by first | rfl | exact isRefV_rf _) ?_
  refine r_callV2 (pc := 167) dX3_perform_167 qX3_takeInto kX3_193 vX3_takeInto (by first | assumption | exact isI.gx (by assumption) | exact isI.gc (by assumption) | exact isW.gx (by assumption) | exact isW.gF (by assumption) | exact isW.gT (by assumption) (by omega) | exact isW.gS (by assumption) (by omega) | exact isW.gK (by assumption) (by omega) | exact isW.g1 (by assumption) | exact isW.g2 (by assumption) | exact isW.g3 (by assumption) | exact isI.gx (isW.i0 (by assumption)) | exact isI.gc (isW.i0 (by assumption)) | exact isI.gx (isW.i1 (by assumption)) | exact isI.gc (isW.i1 (by assumption)) | exact isI.gx (isW.i2 (by assumption)) | exact isI.gc (isW.i2 (by assumption)) | exact isI.gx (isW.i3 (by assumption)) | exact isI.gc (isW.i3 (by assumption)) | exact isI.gx (isW.i4 (by assumption)) | exact isI.gc (isW.i4 (by assumption)) | exact isI.gx (isW.i5 (by assumption)) | exact isI.gc (isW.i5 (by assumption)) | exact isR.gx (by assumption) | exact isRd.gx (by assumption) | exact isSp.gx (by assumption) | exact isI.gx (isR.i (by assumption)) | exact isI.gx (isRd.i (by assumption)) | exact isI.gc (isRd.i (by assumption)) | exact isI.gx (isSp.i (by assumption)) | exact isW.gx (isR.w (by assumption)) | exact isW.gF (isR.w (by assumption)) | fail "no such object") rfl rfl (Nat.le_of_ble_eq_true rfl) (cr_takeInto _ hR hc hN hcap hZ hcapZ hs hsr hi) (fun v_167 h_167 q_167 => ?_)
  obtain ⟨j_167, rfl⟩ : ∃ j, v_167 = some (.int (J j)) := by rcases q_167 with ⟨-, e, -⟩ | ⟨-, -, e, -⟩ | ⟨-, -, -, e, -⟩ | ⟨-, -, -, e, -⟩ <;> exact ⟨_, e⟩
  refine r_ireturn (pc := 170) .int dX3_perform_170 rfl (by first | rfl | assumption) ?_
  exact q_167
set_option maxHeartbeats 4000000 in
set_option maxRecDepth 100000 in
theorem pf_close {G : mG} {l : Launch} (d : Nat) {h : mH} {r : Nat} {b z : Int} {f : Nat → Int} {c : Nat → Int} {C : Nat → Nat → Int} {nm : Nat → Int64} {g : Nat → Option Nat} (hR : isR h r b z f c C nm g) (hc : ∀ q, InR (c q)) {s s0 : Nat} {kd num vl : Int} {y : Int64} {inn nx : Option Nat} (hs : hGet h s = some (stO kd num vl y inn nx)) (hkd : kd = 120) {i : Int} {N : Nat} (hN : c 0 = (N : Int)) (hcap : N ≤ 90) (hz0 : 0 ≤ z ∧ z < 160) : RUN G l (d + 3) mX3_perform 41 [some (.ref r), some (.ref s0), some (.int (J i)), some (.ref s)] [] h (fun v h' => (hnL c nm y N 0 < 0 ∧ v = some (.int (J 104)) ∧ h' = h) ∨ (∃ q : Nat, q < N ∧ hnL c nm y N 0 = q ∧ c (32 + 3 * q) = 0 ∧ nm q = y ∧ v = some (.int (J 0)) ∧ isR h' r b (z + 1) (updI f z.toNat (q : Int)) (updI c (32 + 3 * q) 2) C nm (btG g q) ∧ Same (rBlk r) h h')) := by
  refine pf_sw (d + 3) hs ⟨by omega, by omega⟩ (fun tgt ht => ?_)
  obtain rfl : tgt = 171 := by omega
  have s_u := hs
  unfold stO at s_u
  refine r_aload_n (pc := 171) dX3_perform_171 rfl (by first | rfl | exact isRefV_rf _) ?_
  refine r_aload_n (pc := 172) dX3_perform_172 rfl (by first | rfl | exact isRefV_rf _) ?_
  refine r_getf (pc := 173) dX3_perform_173 fX3_197 (by first | assumption | exact isI.gx (by assumption) | exact isI.gc (by assumption) | exact isW.gx (by assumption) | exact isW.gF (by assumption) | exact isW.gT (by assumption) (by omega) | exact isW.gS (by assumption) (by omega) | exact isW.gK (by assumption) (by omega) | exact isW.g1 (by assumption) | exact isW.g2 (by assumption) | exact isW.g3 (by assumption) | exact isI.gx (isW.i0 (by assumption)) | exact isI.gc (isW.i0 (by assumption)) | exact isI.gx (isW.i1 (by assumption)) | exact isI.gc (isW.i1 (by assumption)) | exact isI.gx (isW.i2 (by assumption)) | exact isI.gc (isW.i2 (by assumption)) | exact isI.gx (isW.i3 (by assumption)) | exact isI.gc (isW.i3 (by assumption)) | exact isI.gx (isW.i4 (by assumption)) | exact isI.gc (isW.i4 (by assumption)) | exact isI.gx (isW.i5 (by assumption)) | exact isI.gc (isW.i5 (by assumption)) | exact isR.gx (by assumption) | exact isRd.gx (by assumption) | exact isSp.gx (by assumption) | exact isI.gx (isR.i (by assumption)) | exact isI.gx (isRd.i (by assumption)) | exact isI.gc (isRd.i (by assumption)) | exact isI.gx (isSp.i (by assumption)) | exact isW.gx (isR.w (by assumption)) | exact isW.gF (isR.w (by assumption)) | fail "no such object") (by rfl) ?_
  refine r_callV1 (pc := 176) dX3_perform_176 qX3_closeNamed kX3_201 vX3_closeNamed (by first | assumption | exact isI.gx (by assumption) | exact isI.gc (by assumption) | exact isW.gx (by assumption) | exact isW.gF (by assumption) | exact isW.gT (by assumption) (by omega) | exact isW.gS (by assumption) (by omega) | exact isW.gK (by assumption) (by omega) | exact isW.g1 (by assumption) | exact isW.g2 (by assumption) | exact isW.g3 (by assumption) | exact isI.gx (isW.i0 (by assumption)) | exact isI.gc (isW.i0 (by assumption)) | exact isI.gx (isW.i1 (by assumption)) | exact isI.gc (isW.i1 (by assumption)) | exact isI.gx (isW.i2 (by assumption)) | exact isI.gc (isW.i2 (by assumption)) | exact isI.gx (isW.i3 (by assumption)) | exact isI.gc (isW.i3 (by assumption)) | exact isI.gx (isW.i4 (by assumption)) | exact isI.gc (isW.i4 (by assumption)) | exact isI.gx (isW.i5 (by assumption)) | exact isI.gc (isW.i5 (by assumption)) | exact isR.gx (by assumption) | exact isRd.gx (by assumption) | exact isSp.gx (by assumption) | exact isI.gx (isR.i (by assumption)) | exact isI.gx (isRd.i (by assumption)) | exact isI.gc (isRd.i (by assumption)) | exact isI.gx (isSp.i (by assumption)) | exact isW.gx (isR.w (by assumption)) | exact isW.gF (isR.w (by assumption)) | fail "no such object") rfl rfl (Nat.le_of_ble_eq_true rfl) (cr_closeNamed _ hR hc hN hcap hz0 (y := y)) (fun v_176 h_176 q_176 => ?_)
  obtain ⟨j_176, rfl⟩ : ∃ j, v_176 = some (.int (J j)) := by rcases q_176 with ⟨-, e, -⟩ | ⟨q, -, -, -, -, e, -⟩ <;> exact ⟨_, e⟩
  refine r_ireturn (pc := 179) .int dX3_perform_179 rfl (by first | rfl | assumption) ?_
  exact q_176
set_option maxHeartbeats 4000000 in
set_option maxRecDepth 100000 in
theorem pf_move {G : mG} {l : Launch} (d : Nat) {h : mH} {r : Nat} {b z : Int} {f : Nat → Int} {c : Nat → Int} {C : Nat → Nat → Int} {nm : Nat → Int64} {g : Nat → Option Nat} (hR : isR h r b z f c C nm g) (hc : ∀ q, InR (c q)) {s s0 : Nat} {kd num vl : Int} {y : Int64} {inn nx : Option Nat} (hs : hGet h s = some (stO kd num vl y inn nx)) (hkd : kd = 109) {i : Int} {N : Nat} (hN : c 0 = (N : Int)) (hcap : N ≤ 90) {Z : Nat} (hZ : c 10 = (Z : Int)) (hcapZ : Z < 150) (hC : ∀ q, InR (C 2 q)) (hm : InR num) : RUN G l (d + 3) mX3_perform 41 [some (.ref r), some (.ref s0), some (.int (J i)), some (.ref s)] [] h (fun v h' => (hnL c nm y N 0 < 0 ∧ v = some (.int (J 104)) ∧ h' = h) ∨ (0 ≤ hnL c nm y N 0 ∧ ¬ opP c num ∧ v = some (.int (J 105)) ∧ h' = h) ∨ (∃ q : Nat, q < N ∧ hnL c nm y N 0 = q ∧ c (32 + 3 * q) = 0 ∧ nm q = y ∧ opP c num ∧ v = some (.int (J 0)) ∧ isR h' r b z f (mvC c q num (cnt (notB (q : Int) (C 2)) Z)) (mvD C Z q) nm g ∧ Same (rBlk r) h h')) := by
  refine pf_sw (d + 3) hs ⟨by omega, by omega⟩ (fun tgt ht => ?_)
  obtain rfl : tgt = 180 := by omega
  have s_u := hs
  unfold stO at s_u
  refine r_aload_n (pc := 180) dX3_perform_180 rfl (by first | rfl | exact isRefV_rf _) ?_
  refine r_aload_n (pc := 181) dX3_perform_181 rfl (by first | rfl | exact isRefV_rf _) ?_
  refine r_getf (pc := 182) dX3_perform_182 fX3_197 (by first | assumption | exact isI.gx (by assumption) | exact isI.gc (by assumption) | exact isW.gx (by assumption) | exact isW.gF (by assumption) | exact isW.gT (by assumption) (by omega) | exact isW.gS (by assumption) (by omega) | exact isW.gK (by assumption) (by omega) | exact isW.g1 (by assumption) | exact isW.g2 (by assumption) | exact isW.g3 (by assumption) | exact isI.gx (isW.i0 (by assumption)) | exact isI.gc (isW.i0 (by assumption)) | exact isI.gx (isW.i1 (by assumption)) | exact isI.gc (isW.i1 (by assumption)) | exact isI.gx (isW.i2 (by assumption)) | exact isI.gc (isW.i2 (by assumption)) | exact isI.gx (isW.i3 (by assumption)) | exact isI.gc (isW.i3 (by assumption)) | exact isI.gx (isW.i4 (by assumption)) | exact isI.gc (isW.i4 (by assumption)) | exact isI.gx (isW.i5 (by assumption)) | exact isI.gc (isW.i5 (by assumption)) | exact isR.gx (by assumption) | exact isRd.gx (by assumption) | exact isSp.gx (by assumption) | exact isI.gx (isR.i (by assumption)) | exact isI.gx (isRd.i (by assumption)) | exact isI.gc (isRd.i (by assumption)) | exact isI.gx (isSp.i (by assumption)) | exact isW.gx (isR.w (by assumption)) | exact isW.gF (isR.w (by assumption)) | fail "no such object") (by rfl) ?_
  refine r_aload_n (pc := 185) dX3_perform_185 rfl (by first | rfl | exact isRefV_rf _) ?_
  refine r_getf (pc := 186) dX3_perform_186 fX3_181 (by first | assumption | exact isI.gx (by assumption) | exact isI.gc (by assumption) | exact isW.gx (by assumption) | exact isW.gF (by assumption) | exact isW.gT (by assumption) (by omega) | exact isW.gS (by assumption) (by omega) | exact isW.gK (by assumption) (by omega) | exact isW.g1 (by assumption) | exact isW.g2 (by assumption) | exact isW.g3 (by assumption) | exact isI.gx (isW.i0 (by assumption)) | exact isI.gc (isW.i0 (by assumption)) | exact isI.gx (isW.i1 (by assumption)) | exact isI.gc (isW.i1 (by assumption)) | exact isI.gx (isW.i2 (by assumption)) | exact isI.gc (isW.i2 (by assumption)) | exact isI.gx (isW.i3 (by assumption)) | exact isI.gc (isW.i3 (by assumption)) | exact isI.gx (isW.i4 (by assumption)) | exact isI.gc (isW.i4 (by assumption)) | exact isI.gx (isW.i5 (by assumption)) | exact isI.gc (isW.i5 (by assumption)) | exact isR.gx (by assumption) | exact isRd.gx (by assumption) | exact isSp.gx (by assumption) | exact isI.gx (isR.i (by assumption)) | exact isI.gx (isRd.i (by assumption)) | exact isI.gc (isRd.i (by assumption)) | exact isI.gx (isSp.i (by assumption)) | exact isW.gx (isR.w (by assumption)) | exact isW.gF (isR.w (by assumption)) | fail "no such object") (by rfl) ?_
  refine r_callV2 (pc := 189) dX3_perform_189 qX3_moveNamed kX3_205 vX3_moveNamed (by first | assumption | exact isI.gx (by assumption) | exact isI.gc (by assumption) | exact isW.gx (by assumption) | exact isW.gF (by assumption) | exact isW.gT (by assumption) (by omega) | exact isW.gS (by assumption) (by omega) | exact isW.gK (by assumption) (by omega) | exact isW.g1 (by assumption) | exact isW.g2 (by assumption) | exact isW.g3 (by assumption) | exact isI.gx (isW.i0 (by assumption)) | exact isI.gc (isW.i0 (by assumption)) | exact isI.gx (isW.i1 (by assumption)) | exact isI.gc (isW.i1 (by assumption)) | exact isI.gx (isW.i2 (by assumption)) | exact isI.gc (isW.i2 (by assumption)) | exact isI.gx (isW.i3 (by assumption)) | exact isI.gc (isW.i3 (by assumption)) | exact isI.gx (isW.i4 (by assumption)) | exact isI.gc (isW.i4 (by assumption)) | exact isI.gx (isW.i5 (by assumption)) | exact isI.gc (isW.i5 (by assumption)) | exact isR.gx (by assumption) | exact isRd.gx (by assumption) | exact isSp.gx (by assumption) | exact isI.gx (isR.i (by assumption)) | exact isI.gx (isRd.i (by assumption)) | exact isI.gc (isRd.i (by assumption)) | exact isI.gx (isSp.i (by assumption)) | exact isW.gx (isR.w (by assumption)) | exact isW.gF (isR.w (by assumption)) | fail "no such object") rfl rfl (Nat.le_of_ble_eq_true rfl) (cr_moveNamed _ hR hc hN hcap hZ hcapZ hC (y := y) hm) (fun v_189 h_189 q_189 => ?_)
  obtain ⟨j_189, rfl⟩ : ∃ j, v_189 = some (.int (J j)) := by rcases q_189 with ⟨-, e, -⟩ | ⟨-, -, e, -⟩ | ⟨q, -, -, -, -, -, e, -⟩ <;> exact ⟨_, e⟩
  refine r_ireturn (pc := 192) .int dX3_perform_192 rfl (by first | rfl | assumption) ?_
  exact q_189
set_option maxHeartbeats 4000000 in
set_option maxRecDepth 100000 in
theorem pf_cancel {G : mG} {l : Launch} (d : Nat) {h : mH} {r : Nat} {b z : Int} {f : Nat → Int} {c : Nat → Int} {C : Nat → Nat → Int} {nm : Nat → Int64} {g : Nat → Option Nat} (hR : isR h r b z f c C nm g) (hc : ∀ q, InR (c q)) {s s0 : Nat} {kd num vl : Int} {y : Int64} {inn nx : Option Nat} (hs : hGet h s = some (stO kd num vl y inn nx)) (hkd : kd = 107) {i : Int} (hm : InR num) : RUN G l (d + 2) mX3_perform 41 [some (.ref r), some (.ref s0), some (.int (J i)), some (.ref s)] [] h (fun v h' => (¬ (inW c 2 10 num ∧ c (489 + 9 * num.toNat) = 0) ∧ v = some (.int (J 106)) ∧ h' = h) ∨ ((inW c 2 10 num ∧ c (489 + 9 * num.toNat) = 0) ∧ v = some (.int (J 0)) ∧ isR h' r b z f (updI c (496 + 9 * num.toNat) 1) C nm g ∧ Same (rBlk r) h h')) := by
  refine pf_sw (d + 2) hs ⟨by omega, by omega⟩ (fun tgt ht => ?_)
  obtain rfl : tgt = 193 := by omega
  have s_u := hs
  unfold stO at s_u
  refine r_aload_n (pc := 193) dX3_perform_193 rfl (by first | rfl | exact isRefV_rf _) ?_
  refine r_aload_n (pc := 194) dX3_perform_194 rfl (by first | rfl | exact isRefV_rf _) ?_
  refine r_getf (pc := 195) dX3_perform_195 fX3_181 (by first | assumption | exact isI.gx (by assumption) | exact isI.gc (by assumption) | exact isW.gx (by assumption) | exact isW.gF (by assumption) | exact isW.gT (by assumption) (by omega) | exact isW.gS (by assumption) (by omega) | exact isW.gK (by assumption) (by omega) | exact isW.g1 (by assumption) | exact isW.g2 (by assumption) | exact isW.g3 (by assumption) | exact isI.gx (isW.i0 (by assumption)) | exact isI.gc (isW.i0 (by assumption)) | exact isI.gx (isW.i1 (by assumption)) | exact isI.gc (isW.i1 (by assumption)) | exact isI.gx (isW.i2 (by assumption)) | exact isI.gc (isW.i2 (by assumption)) | exact isI.gx (isW.i3 (by assumption)) | exact isI.gc (isW.i3 (by assumption)) | exact isI.gx (isW.i4 (by assumption)) | exact isI.gc (isW.i4 (by assumption)) | exact isI.gx (isW.i5 (by assumption)) | exact isI.gc (isW.i5 (by assumption)) | exact isR.gx (by assumption) | exact isRd.gx (by assumption) | exact isSp.gx (by assumption) | exact isI.gx (isR.i (by assumption)) | exact isI.gx (isRd.i (by assumption)) | exact isI.gc (isRd.i (by assumption)) | exact isI.gx (isSp.i (by assumption)) | exact isW.gx (isR.w (by assumption)) | exact isW.gF (isR.w (by assumption)) | fail "no such object") (by rfl) ?_
  refine r_callV1 (pc := 198) dX3_perform_198 qX3_askToCancel kX3_209 vX3_askToCancel (by first | assumption | exact isI.gx (by assumption) | exact isI.gc (by assumption) | exact isW.gx (by assumption) | exact isW.gF (by assumption) | exact isW.gT (by assumption) (by omega) | exact isW.gS (by assumption) (by omega) | exact isW.gK (by assumption) (by omega) | exact isW.g1 (by assumption) | exact isW.g2 (by assumption) | exact isW.g3 (by assumption) | exact isI.gx (isW.i0 (by assumption)) | exact isI.gc (isW.i0 (by assumption)) | exact isI.gx (isW.i1 (by assumption)) | exact isI.gc (isW.i1 (by assumption)) | exact isI.gx (isW.i2 (by assumption)) | exact isI.gc (isW.i2 (by assumption)) | exact isI.gx (isW.i3 (by assumption)) | exact isI.gc (isW.i3 (by assumption)) | exact isI.gx (isW.i4 (by assumption)) | exact isI.gc (isW.i4 (by assumption)) | exact isI.gx (isW.i5 (by assumption)) | exact isI.gc (isW.i5 (by assumption)) | exact isR.gx (by assumption) | exact isRd.gx (by assumption) | exact isSp.gx (by assumption) | exact isI.gx (isR.i (by assumption)) | exact isI.gx (isRd.i (by assumption)) | exact isI.gc (isRd.i (by assumption)) | exact isI.gx (isSp.i (by assumption)) | exact isW.gx (isR.w (by assumption)) | exact isW.gF (isR.w (by assumption)) | fail "no such object") rfl rfl (Nat.le_of_ble_eq_true rfl) (cr_askToCancel _ hR hc hm) (fun v_198 h_198 q_198 => ?_)
  obtain ⟨j_198, rfl⟩ : ∃ j, v_198 = some (.int (J j)) := by rcases q_198 with ⟨-, e, -⟩ | ⟨-, e, -⟩ <;> exact ⟨_, e⟩
  refine r_ireturn (pc := 201) .int dX3_perform_201 rfl (by first | rfl | assumption) ?_
  exact q_198
set_option maxHeartbeats 4000000 in
set_option maxRecDepth 100000 in
theorem pf_open {G : mG} {l : Launch} (d : Nat) {h : mH} {r : Nat} {z b : Int} {f : Nat → Int} {c : Nat → Int} {C : Nat → Nat → Int} {nm : Nat → Int64} {g : Nat → Option Nat} (hR : isR h r b z f c C nm g) (hc : ∀ q, InR (c q)) {s s0 : Nat} {kd num vl : Int} {y : Int64} {inn nx : Option Nat} (hs : hGet h s = some (stO kd num vl y inn nx)) (hkd : kd = 40) {i : Int} {S : Nat} (hS : c 1 = (S : Int)) (hcapS : S ≤ 60) {Z : Nat} (hZ : c 10 = (Z : Int)) (hcapZ : Z < 150) {q : Nat} (hb : b = (q : Int)) (hq : (q : Int) < c 2) (hq2 : q < 10) : RUN G l (d + 3) mX3_perform 41 [some (.ref r), some (.ref s0), some (.int (J i)), some (.ref s)] [] h (fun v h' => (60 ≤ S ∧ v = some (.int (J 107)) ∧ h' = h) ∨ (S < 60 ∧ ¬ opP c (c (494 + 9 * q)) ∧ v = some (.int (J 101)) ∧ h' = h) ∨ (S < 60 ∧ opP c (c (494 + 9 * q)) ∧ v = some (.int (J 0)) ∧ isR h' r b z f (oiC c S Z q) (updC C 2 (updI (C 2) Z (100 + (S : Int)))) nm g ∧ Same (rBlk r) h h')) := by
  refine pf_sw (d + 3) hs ⟨by omega, by omega⟩ (fun tgt ht => ?_)
  obtain rfl : tgt = 202 := by omega
  have s_u := hs
  unfold stO at s_u
  refine r_aload_n (pc := 202) dX3_perform_202 rfl (by first | rfl | exact isRefV_rf _) ?_
  refine r_callV0 (pc := 203) dX3_perform_203 qX3_openInner kX3_212 vX3_openInner (by first | assumption | exact isI.gx (by assumption) | exact isI.gc (by assumption) | exact isW.gx (by assumption) | exact isW.gF (by assumption) | exact isW.gT (by assumption) (by omega) | exact isW.gS (by assumption) (by omega) | exact isW.gK (by assumption) (by omega) | exact isW.g1 (by assumption) | exact isW.g2 (by assumption) | exact isW.g3 (by assumption) | exact isI.gx (isW.i0 (by assumption)) | exact isI.gc (isW.i0 (by assumption)) | exact isI.gx (isW.i1 (by assumption)) | exact isI.gc (isW.i1 (by assumption)) | exact isI.gx (isW.i2 (by assumption)) | exact isI.gc (isW.i2 (by assumption)) | exact isI.gx (isW.i3 (by assumption)) | exact isI.gc (isW.i3 (by assumption)) | exact isI.gx (isW.i4 (by assumption)) | exact isI.gc (isW.i4 (by assumption)) | exact isI.gx (isW.i5 (by assumption)) | exact isI.gc (isW.i5 (by assumption)) | exact isR.gx (by assumption) | exact isRd.gx (by assumption) | exact isSp.gx (by assumption) | exact isI.gx (isR.i (by assumption)) | exact isI.gx (isRd.i (by assumption)) | exact isI.gc (isRd.i (by assumption)) | exact isI.gx (isSp.i (by assumption)) | exact isW.gx (isR.w (by assumption)) | exact isW.gF (isR.w (by assumption)) | fail "no such object") rfl rfl (Nat.le_of_ble_eq_true rfl) (cr_openInner _ hR hc hS hcapS hZ hcapZ hb hq hq2) (fun v_203 h_203 q_203 => ?_)
  obtain ⟨j_203, rfl⟩ : ∃ j, v_203 = some (.int (J j)) := by rcases q_203 with ⟨-, e, -⟩ | ⟨-, -, e, -⟩ | ⟨-, -, e, -⟩ <;> exact ⟨_, e⟩
  refine r_ireturn (pc := 206) .int dX3_perform_206 rfl (by first | rfl | assumption) ?_
  exact q_203
set_option maxHeartbeats 4000000 in
set_option maxRecDepth 100000 in
theorem pf_shut {G : mG} {l : Launch} (d : Nat) {h : mH} {r : Nat} {z b : Int} {f : Nat → Int} {c : Nat → Int} {C : Nat → Nat → Int} {nm : Nat → Int64} {g : Nat → Option Nat} (hR : isR h r b z f c C nm g) (hc : ∀ q, InR (c q)) {s s0 : Nat} {kd num vl : Int} {y : Int64} {inn nx : Option Nat} (hs : hGet h s = some (stO kd num vl y inn nx)) (hkd : kd = 41) {i : Int} (hz0 : 0 ≤ z ∧ z < 160) {q : Nat} (hb : b = (q : Int)) (hq : (q : Int) < c 2) (hq2 : q < 10) {u : Nat} (hu : c (494 + 9 * q) = (u : Int)) (hu1 : (u : Int) < c 1) (hu2 : u < 60) (hne : ¬ c (494 + 9 * q) = c (493 + 9 * q)) : RUN G l (d + 4) mX3_perform 41 [some (.ref r), some (.ref s0), some (.int (J i)), some (.ref s)] [] h (fun v h' => v = some (.int (J 0)) ∧ ((c (304 + 3 * u) = 0 ∧ isR h' r b (z + 1) (updI f z.toNat (100 + (u : Int))) (updI (updI c (304 + 3 * u) 2) (494 + 9 * q) (c (305 + 3 * u))) C nm g) ∨ (¬ c (304 + 3 * u) = 0 ∧ isR h' r b z f (updI c (494 + 9 * q) (c (305 + 3 * u))) C nm g)) ∧ Same (rBlk r) h h') := by
  refine pf_sw (d + 4) hs ⟨by omega, by omega⟩ (fun tgt ht => ?_)
  obtain rfl : tgt = 207 := by omega
  have s_u := hs
  unfold stO at s_u
  refine r_aload_n (pc := 207) dX3_perform_207 rfl (by first | rfl | exact isRefV_rf _) ?_
  refine r_callV0 (pc := 208) dX3_perform_208 qX3_shutInner kX3_215 vX3_shutInner (by first | assumption | exact isI.gx (by assumption) | exact isI.gc (by assumption) | exact isW.gx (by assumption) | exact isW.gF (by assumption) | exact isW.gT (by assumption) (by omega) | exact isW.gS (by assumption) (by omega) | exact isW.gK (by assumption) (by omega) | exact isW.g1 (by assumption) | exact isW.g2 (by assumption) | exact isW.g3 (by assumption) | exact isI.gx (isW.i0 (by assumption)) | exact isI.gc (isW.i0 (by assumption)) | exact isI.gx (isW.i1 (by assumption)) | exact isI.gc (isW.i1 (by assumption)) | exact isI.gx (isW.i2 (by assumption)) | exact isI.gc (isW.i2 (by assumption)) | exact isI.gx (isW.i3 (by assumption)) | exact isI.gc (isW.i3 (by assumption)) | exact isI.gx (isW.i4 (by assumption)) | exact isI.gc (isW.i4 (by assumption)) | exact isI.gx (isW.i5 (by assumption)) | exact isI.gc (isW.i5 (by assumption)) | exact isR.gx (by assumption) | exact isRd.gx (by assumption) | exact isSp.gx (by assumption) | exact isI.gx (isR.i (by assumption)) | exact isI.gx (isRd.i (by assumption)) | exact isI.gc (isRd.i (by assumption)) | exact isI.gx (isSp.i (by assumption)) | exact isW.gx (isR.w (by assumption)) | exact isW.gF (isR.w (by assumption)) | fail "no such object") rfl rfl (Nat.le_of_ble_eq_true rfl) (cr_shutInner _ hR hc hz0 hb hq hq2 hu hu1 hu2 hne) (fun v_208 h_208 q_208 => ?_)
  obtain ⟨j_208, rfl⟩ : ∃ j, v_208 = some (.int (J j)) := by rcases q_208 with ⟨e, -⟩ <;> exact ⟨_, e⟩
  refine r_ireturn (pc := 211) .int dX3_perform_211 rfl (by first | rfl | assumption) ?_
  exact q_208
set_option maxHeartbeats 4000000 in
set_option maxRecDepth 100000 in
theorem pf_nop {G : mG} {l : Launch} (d : Nat) {h : mH} {r : Nat} {b z : Int} {f : Nat → Int} {c : Nat → Int} {C : Nat → Nat → Int} {nm : Nat → Int64} {g : Nat → Option Nat} (hR : isR h r b z f c C nm g) (hc : ∀ q, InR (c q)) {s s0 : Nat} {kd num vl : Int} {y : Int64} {inn nx : Option Nat} (hs : hGet h s = some (stO kd num vl y inn nx)) (hkd : kd = 46) {i : Int} : RUN G l (d) mX3_perform 41 [some (.ref r), some (.ref s0), some (.int (J i)), some (.ref s)] [] h (fun v h' => v = some (.int (J 0)) ∧ h' = h) := by
  refine pf_sw (d) hs ⟨by omega, by omega⟩ (fun tgt ht => ?_)
  obtain rfl : tgt = 212 := by omega
  have s_u := hs
  unfold stO at s_u
  refine rj_iconst (pc := 212) dX3_perform_212 ?_
  refine r_ireturn (pc := 213) .int dX3_perform_213 rfl (by first | rfl | assumption) ?_
  exact ⟨rfl, rfl⟩
set_option maxHeartbeats 4000000 in
set_option maxRecDepth 100000 in
theorem pf_plain {G : mG} {l : Launch} (d : Nat) {h : mH} {r s : Nat} {kd num vl i : Int} {y : Int64} {inn nx : Option Nat} (hs : hGet h s = some (stO kd num vl y inn nx)) (hk : ¬ kd = 63) (hkr : InR kd) {Q : Option Value → mH → Prop} (R : RUN G l d mX3_perform 41 [some (.ref r), some (.ref s), some (.int (J i)), some (.ref s)] [] h Q) : RUNM G l d mX3_perform [.ref r, .ref s, .int (J i)] h Q := by
  refine RUNM.of (by decide +kernel) (Nat.le_of_ble_eq_true rfl) ?_
  have s_u := hs
  unfold stO at s_u
  refine r_aload_n (pc := 0) dX3_perform_0 rfl (by first | rfl | exact isRefV_rf _) ?_
  refine r_astore_n (pc := 1) dX3_perform_1 (Nat.le_of_ble_eq_true rfl) (by first | rfl | exact isRefV_rf _) ?_
  dsimp only [lsSt, List.set, mLs, mEnt]
  refine r_aload_n (pc := 2) dX3_perform_2 rfl (by first | rfl | exact isRefV_rf _) ?_
  refine r_getf (pc := 3) dX3_perform_3 fX3_169 (by first | assumption | exact isI.gx (by assumption) | exact isI.gc (by assumption) | exact isW.gx (by assumption) | exact isW.gF (by assumption) | exact isW.gT (by assumption) (by omega) | exact isW.gS (by assumption) (by omega) | exact isW.gK (by assumption) (by omega) | exact isW.g1 (by assumption) | exact isW.g2 (by assumption) | exact isW.g3 (by assumption) | exact isI.gx (isW.i0 (by assumption)) | exact isI.gc (isW.i0 (by assumption)) | exact isI.gx (isW.i1 (by assumption)) | exact isI.gc (isW.i1 (by assumption)) | exact isI.gx (isW.i2 (by assumption)) | exact isI.gc (isW.i2 (by assumption)) | exact isI.gx (isW.i3 (by assumption)) | exact isI.gc (isW.i3 (by assumption)) | exact isI.gx (isW.i4 (by assumption)) | exact isI.gc (isW.i4 (by assumption)) | exact isI.gx (isW.i5 (by assumption)) | exact isI.gc (isW.i5 (by assumption)) | exact isR.gx (by assumption) | exact isRd.gx (by assumption) | exact isSp.gx (by assumption) | exact isI.gx (isR.i (by assumption)) | exact isI.gx (isRd.i (by assumption)) | exact isI.gc (isRd.i (by assumption)) | exact isI.gx (isSp.i (by assumption)) | exact isW.gx (isR.w (by assumption)) | exact isW.gF (isR.w (by assumption)) | fail "no such object") (by rfl) ?_
  refine rj_bipush (pc := 6) dX3_perform_6 (by decide +kernel) ?_
  refine rj_icmp_ne (pc := 8) (tgt := 41) dX3_perform_8 (by decide) (by first | exact b01_r | exact bz_r | omega | (constructor <;> omega) | apply_assumption | (apply atF_r; assumption) | fail "no range") (by first | exact b01_r | exact bz_r | omega | (constructor <;> omega) | apply_assumption | (apply atF_r; assumption) | fail "no range") (fun c_8 => ?_) (fun c_8 => ?_)
  · exact R
  · exfalso; omega
set_option maxHeartbeats 4000000 in
set_option maxRecDepth 100000 in
theorem pf_ifY {G : mG} {l : Launch} (d : Nat) {h : mH} {r : Nat} {b z : Int} {f : Nat → Int} {c : Nat → Int} {C : Nat → Nat → Int} {nm : Nat → Int64} {g : Nat → Option Nat} (hR : isR h r b z f c C nm g) (hc : ∀ q, InR (c q)) {s s2 : Nat} {num vl i : Int} {y : Int64} {nx : Option Nat} (hs : hGet h s = some (stO 63 num vl y (some s2) nx)) (h8 : c 8 = 8) (hC0 : ∀ q, InR (C 0 q)) {k : Nat} (hk : num = (k : Int)) (hk7 : k < 8) (hvl : InR vl) (hlt : C 0 k < vl) {Q : Option Value → mH → Prop} (R : RUN G l (d + 2) mX3_perform 41 [some (.ref r), some (.ref s), some (.int (J i)), some (.ref s2)] [] h Q) : RUNM G l (d + 2) mX3_perform [.ref r, .ref s, .int (J i)] h Q := by
  refine RUNM.of (by decide +kernel) (Nat.le_of_ble_eq_true rfl) ?_
  subst hk
  have s_u := hs
  unfold stO at s_u
  refine r_aload_n (pc := 0) dX3_perform_0 rfl (by first | rfl | exact isRefV_rf _) ?_
  refine r_astore_n (pc := 1) dX3_perform_1 (Nat.le_of_ble_eq_true rfl) (by first | rfl | exact isRefV_rf _) ?_
  dsimp only [lsSt, List.set, mLs, mEnt]
  refine r_aload_n (pc := 2) dX3_perform_2 rfl (by first | rfl | exact isRefV_rf _) ?_
  refine r_getf (pc := 3) dX3_perform_3 fX3_169 (by first | assumption | exact isI.gx (by assumption) | exact isI.gc (by assumption) | exact isW.gx (by assumption) | exact isW.gF (by assumption) | exact isW.gT (by assumption) (by omega) | exact isW.gS (by assumption) (by omega) | exact isW.gK (by assumption) (by omega) | exact isW.g1 (by assumption) | exact isW.g2 (by assumption) | exact isW.g3 (by assumption) | exact isI.gx (isW.i0 (by assumption)) | exact isI.gc (isW.i0 (by assumption)) | exact isI.gx (isW.i1 (by assumption)) | exact isI.gc (isW.i1 (by assumption)) | exact isI.gx (isW.i2 (by assumption)) | exact isI.gc (isW.i2 (by assumption)) | exact isI.gx (isW.i3 (by assumption)) | exact isI.gc (isW.i3 (by assumption)) | exact isI.gx (isW.i4 (by assumption)) | exact isI.gc (isW.i4 (by assumption)) | exact isI.gx (isW.i5 (by assumption)) | exact isI.gc (isW.i5 (by assumption)) | exact isR.gx (by assumption) | exact isRd.gx (by assumption) | exact isSp.gx (by assumption) | exact isI.gx (isR.i (by assumption)) | exact isI.gx (isRd.i (by assumption)) | exact isI.gc (isRd.i (by assumption)) | exact isI.gx (isSp.i (by assumption)) | exact isW.gx (isR.w (by assumption)) | exact isW.gF (isR.w (by assumption)) | fail "no such object") (by rfl) ?_
  refine rj_bipush (pc := 6) dX3_perform_6 (by decide +kernel) ?_
  refine rj_icmp_ne (pc := 8) (tgt := 41) dX3_perform_8 (by decide) (by first | exact b01_r | exact bz_r | omega | (constructor <;> omega) | apply_assumption | (apply atF_r; assumption) | fail "no range") (by first | exact b01_r | exact bz_r | omega | (constructor <;> omega) | apply_assumption | (apply atF_r; assumption) | fail "no range") (fun c_8 => ?_) (fun c_8 => ?_)
  · exfalso; omega
  · refine r_aload_n (pc := 11) dX3_perform_11 rfl (by first | rfl | exact isRefV_rf _) ?_
    refine r_getf (pc := 12) dX3_perform_12 fX3_12 (by first | assumption | exact isI.gx (by assumption) | exact isI.gc (by assumption) | exact isW.gx (by assumption) | exact isW.gF (by assumption) | exact isW.gT (by assumption) (by omega) | exact isW.gS (by assumption) (by omega) | exact isW.gK (by assumption) (by omega) | exact isW.g1 (by assumption) | exact isW.g2 (by assumption) | exact isW.g3 (by assumption) | exact isI.gx (isW.i0 (by assumption)) | exact isI.gc (isW.i0 (by assumption)) | exact isI.gx (isW.i1 (by assumption)) | exact isI.gc (isW.i1 (by assumption)) | exact isI.gx (isW.i2 (by assumption)) | exact isI.gc (isW.i2 (by assumption)) | exact isI.gx (isW.i3 (by assumption)) | exact isI.gc (isW.i3 (by assumption)) | exact isI.gx (isW.i4 (by assumption)) | exact isI.gc (isW.i4 (by assumption)) | exact isI.gx (isW.i5 (by assumption)) | exact isI.gc (isW.i5 (by assumption)) | exact isR.gx (by assumption) | exact isRd.gx (by assumption) | exact isSp.gx (by assumption) | exact isI.gx (isR.i (by assumption)) | exact isI.gx (isRd.i (by assumption)) | exact isI.gc (isRd.i (by assumption)) | exact isI.gx (isSp.i (by assumption)) | exact isW.gx (isR.w (by assumption)) | exact isW.gF (isR.w (by assumption)) | fail "no such object") (by rfl) ?_
    refine r_getf (pc := 15) dX3_perform_15 fX3_178 (by first | assumption | exact isI.gx (by assumption) | exact isI.gc (by assumption) | exact isW.gx (by assumption) | exact isW.gF (by assumption) | exact isW.gT (by assumption) (by omega) | exact isW.gS (by assumption) (by omega) | exact isW.gK (by assumption) (by omega) | exact isW.g1 (by assumption) | exact isW.g2 (by assumption) | exact isW.g3 (by assumption) | exact isI.gx (isW.i0 (by assumption)) | exact isI.gc (isW.i0 (by assumption)) | exact isI.gx (isW.i1 (by assumption)) | exact isI.gc (isW.i1 (by assumption)) | exact isI.gx (isW.i2 (by assumption)) | exact isI.gc (isW.i2 (by assumption)) | exact isI.gx (isW.i3 (by assumption)) | exact isI.gc (isW.i3 (by assumption)) | exact isI.gx (isW.i4 (by assumption)) | exact isI.gc (isW.i4 (by assumption)) | exact isI.gx (isW.i5 (by assumption)) | exact isI.gc (isW.i5 (by assumption)) | exact isR.gx (by assumption) | exact isRd.gx (by assumption) | exact isSp.gx (by assumption) | exact isI.gx (isR.i (by assumption)) | exact isI.gx (isRd.i (by assumption)) | exact isI.gc (isRd.i (by assumption)) | exact isI.gx (isSp.i (by assumption)) | exact isW.gx (isR.w (by assumption)) | exact isW.gF (isR.w (by assumption)) | fail "no such object") (by rfl) ?_
    refine r_aload_n (pc := 18) dX3_perform_18 rfl (by first | rfl | exact isRefV_rf _) ?_
    refine r_getf (pc := 19) dX3_perform_19 fX3_181 (by first | assumption | exact isI.gx (by assumption) | exact isI.gc (by assumption) | exact isW.gx (by assumption) | exact isW.gF (by assumption) | exact isW.gT (by assumption) (by omega) | exact isW.gS (by assumption) (by omega) | exact isW.gK (by assumption) (by omega) | exact isW.g1 (by assumption) | exact isW.g2 (by assumption) | exact isW.g3 (by assumption) | exact isI.gx (isW.i0 (by assumption)) | exact isI.gc (isW.i0 (by assumption)) | exact isI.gx (isW.i1 (by assumption)) | exact isI.gc (isW.i1 (by assumption)) | exact isI.gx (isW.i2 (by assumption)) | exact isI.gc (isW.i2 (by assumption)) | exact isI.gx (isW.i3 (by assumption)) | exact isI.gc (isW.i3 (by assumption)) | exact isI.gx (isW.i4 (by assumption)) | exact isI.gc (isW.i4 (by assumption)) | exact isI.gx (isW.i5 (by assumption)) | exact isI.gc (isW.i5 (by assumption)) | exact isR.gx (by assumption) | exact isRd.gx (by assumption) | exact isSp.gx (by assumption) | exact isI.gx (isR.i (by assumption)) | exact isI.gx (isRd.i (by assumption)) | exact isI.gc (isRd.i (by assumption)) | exact isI.gx (isSp.i (by assumption)) | exact isW.gx (isR.w (by assumption)) | exact isW.gF (isR.w (by assumption)) | fail "no such object") (by rfl) ?_
    have i0 := hR.w.i0
    rw [h8] at i0
    have y0 := ci_at (G := G) (l := l) d i0 (by decide) (by decide) (i := (k : Int)) ⟨by omega, by omega⟩
    rw [atF_t (by omega) (by omega)] at y0
    refine r_callV1 (pc := 22) dX3_perform_22 qX1_at kX3_91 vX1_at (by first | assumption | exact isI.gx (by assumption) | exact isI.gc (by assumption) | exact isW.gx (by assumption) | exact isW.gF (by assumption) | exact isW.gT (by assumption) (by omega) | exact isW.gS (by assumption) (by omega) | exact isW.gK (by assumption) (by omega) | exact isW.g1 (by assumption) | exact isW.g2 (by assumption) | exact isW.g3 (by assumption) | exact isI.gx (isW.i0 (by assumption)) | exact isI.gc (isW.i0 (by assumption)) | exact isI.gx (isW.i1 (by assumption)) | exact isI.gc (isW.i1 (by assumption)) | exact isI.gx (isW.i2 (by assumption)) | exact isI.gc (isW.i2 (by assumption)) | exact isI.gx (isW.i3 (by assumption)) | exact isI.gc (isW.i3 (by assumption)) | exact isI.gx (isW.i4 (by assumption)) | exact isI.gc (isW.i4 (by assumption)) | exact isI.gx (isW.i5 (by assumption)) | exact isI.gc (isW.i5 (by assumption)) | exact isR.gx (by assumption) | exact isRd.gx (by assumption) | exact isSp.gx (by assumption) | exact isI.gx (isR.i (by assumption)) | exact isI.gx (isRd.i (by assumption)) | exact isI.gc (isRd.i (by assumption)) | exact isI.gx (isSp.i (by assumption)) | exact isW.gx (isR.w (by assumption)) | exact isW.gF (isR.w (by assumption)) | fail "no such object") rfl rfl (Nat.le_of_ble_eq_true rfl) (y0) (fun v_22 h_22 q_22 => ?_)
    obtain ⟨rfl, rfl⟩ := q_22
    have rk := hC0 k
    refine r_aload_n (pc := 25) dX3_perform_25 rfl (by first | rfl | exact isRefV_rf _) ?_
    refine r_getf (pc := 26) dX3_perform_26 fX3_184 (by first | assumption | exact isI.gx (by assumption) | exact isI.gc (by assumption) | exact isW.gx (by assumption) | exact isW.gF (by assumption) | exact isW.gT (by assumption) (by omega) | exact isW.gS (by assumption) (by omega) | exact isW.gK (by assumption) (by omega) | exact isW.g1 (by assumption) | exact isW.g2 (by assumption) | exact isW.g3 (by assumption) | exact isI.gx (isW.i0 (by assumption)) | exact isI.gc (isW.i0 (by assumption)) | exact isI.gx (isW.i1 (by assumption)) | exact isI.gc (isW.i1 (by assumption)) | exact isI.gx (isW.i2 (by assumption)) | exact isI.gc (isW.i2 (by assumption)) | exact isI.gx (isW.i3 (by assumption)) | exact isI.gc (isW.i3 (by assumption)) | exact isI.gx (isW.i4 (by assumption)) | exact isI.gc (isW.i4 (by assumption)) | exact isI.gx (isW.i5 (by assumption)) | exact isI.gc (isW.i5 (by assumption)) | exact isR.gx (by assumption) | exact isRd.gx (by assumption) | exact isSp.gx (by assumption) | exact isI.gx (isR.i (by assumption)) | exact isI.gx (isRd.i (by assumption)) | exact isI.gc (isRd.i (by assumption)) | exact isI.gx (isSp.i (by assumption)) | exact isW.gx (isR.w (by assumption)) | exact isW.gF (isR.w (by assumption)) | fail "no such object") (by rfl) ?_
    refine rj_icmp_ge (pc := 29) (tgt := 39) dX3_perform_29 (by decide) (by first | exact b01_r | exact bz_r | omega | (constructor <;> omega) | apply_assumption | (apply atF_r; assumption) | fail "no range") (by first | exact b01_r | exact bz_r | omega | (constructor <;> omega) | apply_assumption | (apply atF_r; assumption) | fail "no range") (fun c_29 => ?_) (fun c_29 => ?_)
    · exfalso; omega
    · refine r_aload_n (pc := 32) dX3_perform_32 rfl (by first | rfl | exact isRefV_rf _) ?_
      refine r_getf (pc := 33) dX3_perform_33 fX3_187 (by first | assumption | exact isI.gx (by assumption) | exact isI.gc (by assumption) | exact isW.gx (by assumption) | exact isW.gF (by assumption) | exact isW.gT (by assumption) (by omega) | exact isW.gS (by assumption) (by omega) | exact isW.gK (by assumption) (by omega) | exact isW.g1 (by assumption) | exact isW.g2 (by assumption) | exact isW.g3 (by assumption) | exact isI.gx (isW.i0 (by assumption)) | exact isI.gc (isW.i0 (by assumption)) | exact isI.gx (isW.i1 (by assumption)) | exact isI.gc (isW.i1 (by assumption)) | exact isI.gx (isW.i2 (by assumption)) | exact isI.gc (isW.i2 (by assumption)) | exact isI.gx (isW.i3 (by assumption)) | exact isI.gc (isW.i3 (by assumption)) | exact isI.gx (isW.i4 (by assumption)) | exact isI.gc (isW.i4 (by assumption)) | exact isI.gx (isW.i5 (by assumption)) | exact isI.gc (isW.i5 (by assumption)) | exact isR.gx (by assumption) | exact isRd.gx (by assumption) | exact isSp.gx (by assumption) | exact isI.gx (isR.i (by assumption)) | exact isI.gx (isRd.i (by assumption)) | exact isI.gc (isRd.i (by assumption)) | exact isI.gx (isSp.i (by assumption)) | exact isW.gx (isR.w (by assumption)) | exact isW.gF (isR.w (by assumption)) | fail "no such object") (by rfl) ?_
      refine r_goto (pc := 36) (tgt := 40) dX3_perform_36 (by decide) ?_
      refine r_astore_n (pc := 40) dX3_perform_40 (Nat.le_of_ble_eq_true rfl) (by first | rfl | exact isRefV_rf _) ?_
      dsimp only [lsSt, List.set, mLs, mEnt]
      exact R
set_option maxHeartbeats 4000000 in
set_option maxRecDepth 100000 in
theorem pf_ifN {G : mG} {l : Launch} (d : Nat) {h : mH} {r : Nat} {b z : Int} {f : Nat → Int} {c : Nat → Int} {C : Nat → Nat → Int} {nm : Nat → Int64} {g : Nat → Option Nat} (hR : isR h r b z f c C nm g) (hc : ∀ q, InR (c q)) {s : Nat} {num vl i : Int} {y : Int64} {inn nx : Option Nat} (hs : hGet h s = some (stO 63 num vl y inn nx)) (h8 : c 8 = 8) (hC0 : ∀ q, InR (C 0 q)) {k : Nat} (hk : num = (k : Int)) (hk7 : k < 8) (hvl : InR vl) (hlt : ¬ C 0 k < vl) : RUNM G l (d + 2) mX3_perform [.ref r, .ref s, .int (J i)] h (fun v h' => v = some (.int (J 0)) ∧ h' = h) := by
  refine RUNM.of (by decide +kernel) (Nat.le_of_ble_eq_true rfl) ?_
  subst hk
  have s_u := hs
  unfold stO at s_u
  refine r_aload_n (pc := 0) dX3_perform_0 rfl (by first | rfl | exact isRefV_rf _) ?_
  refine r_astore_n (pc := 1) dX3_perform_1 (Nat.le_of_ble_eq_true rfl) (by first | rfl | exact isRefV_rf _) ?_
  dsimp only [lsSt, List.set, mLs, mEnt]
  refine r_aload_n (pc := 2) dX3_perform_2 rfl (by first | rfl | exact isRefV_rf _) ?_
  refine r_getf (pc := 3) dX3_perform_3 fX3_169 (by first | assumption | exact isI.gx (by assumption) | exact isI.gc (by assumption) | exact isW.gx (by assumption) | exact isW.gF (by assumption) | exact isW.gT (by assumption) (by omega) | exact isW.gS (by assumption) (by omega) | exact isW.gK (by assumption) (by omega) | exact isW.g1 (by assumption) | exact isW.g2 (by assumption) | exact isW.g3 (by assumption) | exact isI.gx (isW.i0 (by assumption)) | exact isI.gc (isW.i0 (by assumption)) | exact isI.gx (isW.i1 (by assumption)) | exact isI.gc (isW.i1 (by assumption)) | exact isI.gx (isW.i2 (by assumption)) | exact isI.gc (isW.i2 (by assumption)) | exact isI.gx (isW.i3 (by assumption)) | exact isI.gc (isW.i3 (by assumption)) | exact isI.gx (isW.i4 (by assumption)) | exact isI.gc (isW.i4 (by assumption)) | exact isI.gx (isW.i5 (by assumption)) | exact isI.gc (isW.i5 (by assumption)) | exact isR.gx (by assumption) | exact isRd.gx (by assumption) | exact isSp.gx (by assumption) | exact isI.gx (isR.i (by assumption)) | exact isI.gx (isRd.i (by assumption)) | exact isI.gc (isRd.i (by assumption)) | exact isI.gx (isSp.i (by assumption)) | exact isW.gx (isR.w (by assumption)) | exact isW.gF (isR.w (by assumption)) | fail "no such object") (by rfl) ?_
  refine rj_bipush (pc := 6) dX3_perform_6 (by decide +kernel) ?_
  refine rj_icmp_ne (pc := 8) (tgt := 41) dX3_perform_8 (by decide) (by first | exact b01_r | exact bz_r | omega | (constructor <;> omega) | apply_assumption | (apply atF_r; assumption) | fail "no range") (by first | exact b01_r | exact bz_r | omega | (constructor <;> omega) | apply_assumption | (apply atF_r; assumption) | fail "no range") (fun c_8 => ?_) (fun c_8 => ?_)
  · exfalso; omega
  · refine r_aload_n (pc := 11) dX3_perform_11 rfl (by first | rfl | exact isRefV_rf _) ?_
    refine r_getf (pc := 12) dX3_perform_12 fX3_12 (by first | assumption | exact isI.gx (by assumption) | exact isI.gc (by assumption) | exact isW.gx (by assumption) | exact isW.gF (by assumption) | exact isW.gT (by assumption) (by omega) | exact isW.gS (by assumption) (by omega) | exact isW.gK (by assumption) (by omega) | exact isW.g1 (by assumption) | exact isW.g2 (by assumption) | exact isW.g3 (by assumption) | exact isI.gx (isW.i0 (by assumption)) | exact isI.gc (isW.i0 (by assumption)) | exact isI.gx (isW.i1 (by assumption)) | exact isI.gc (isW.i1 (by assumption)) | exact isI.gx (isW.i2 (by assumption)) | exact isI.gc (isW.i2 (by assumption)) | exact isI.gx (isW.i3 (by assumption)) | exact isI.gc (isW.i3 (by assumption)) | exact isI.gx (isW.i4 (by assumption)) | exact isI.gc (isW.i4 (by assumption)) | exact isI.gx (isW.i5 (by assumption)) | exact isI.gc (isW.i5 (by assumption)) | exact isR.gx (by assumption) | exact isRd.gx (by assumption) | exact isSp.gx (by assumption) | exact isI.gx (isR.i (by assumption)) | exact isI.gx (isRd.i (by assumption)) | exact isI.gc (isRd.i (by assumption)) | exact isI.gx (isSp.i (by assumption)) | exact isW.gx (isR.w (by assumption)) | exact isW.gF (isR.w (by assumption)) | fail "no such object") (by rfl) ?_
    refine r_getf (pc := 15) dX3_perform_15 fX3_178 (by first | assumption | exact isI.gx (by assumption) | exact isI.gc (by assumption) | exact isW.gx (by assumption) | exact isW.gF (by assumption) | exact isW.gT (by assumption) (by omega) | exact isW.gS (by assumption) (by omega) | exact isW.gK (by assumption) (by omega) | exact isW.g1 (by assumption) | exact isW.g2 (by assumption) | exact isW.g3 (by assumption) | exact isI.gx (isW.i0 (by assumption)) | exact isI.gc (isW.i0 (by assumption)) | exact isI.gx (isW.i1 (by assumption)) | exact isI.gc (isW.i1 (by assumption)) | exact isI.gx (isW.i2 (by assumption)) | exact isI.gc (isW.i2 (by assumption)) | exact isI.gx (isW.i3 (by assumption)) | exact isI.gc (isW.i3 (by assumption)) | exact isI.gx (isW.i4 (by assumption)) | exact isI.gc (isW.i4 (by assumption)) | exact isI.gx (isW.i5 (by assumption)) | exact isI.gc (isW.i5 (by assumption)) | exact isR.gx (by assumption) | exact isRd.gx (by assumption) | exact isSp.gx (by assumption) | exact isI.gx (isR.i (by assumption)) | exact isI.gx (isRd.i (by assumption)) | exact isI.gc (isRd.i (by assumption)) | exact isI.gx (isSp.i (by assumption)) | exact isW.gx (isR.w (by assumption)) | exact isW.gF (isR.w (by assumption)) | fail "no such object") (by rfl) ?_
    refine r_aload_n (pc := 18) dX3_perform_18 rfl (by first | rfl | exact isRefV_rf _) ?_
    refine r_getf (pc := 19) dX3_perform_19 fX3_181 (by first | assumption | exact isI.gx (by assumption) | exact isI.gc (by assumption) | exact isW.gx (by assumption) | exact isW.gF (by assumption) | exact isW.gT (by assumption) (by omega) | exact isW.gS (by assumption) (by omega) | exact isW.gK (by assumption) (by omega) | exact isW.g1 (by assumption) | exact isW.g2 (by assumption) | exact isW.g3 (by assumption) | exact isI.gx (isW.i0 (by assumption)) | exact isI.gc (isW.i0 (by assumption)) | exact isI.gx (isW.i1 (by assumption)) | exact isI.gc (isW.i1 (by assumption)) | exact isI.gx (isW.i2 (by assumption)) | exact isI.gc (isW.i2 (by assumption)) | exact isI.gx (isW.i3 (by assumption)) | exact isI.gc (isW.i3 (by assumption)) | exact isI.gx (isW.i4 (by assumption)) | exact isI.gc (isW.i4 (by assumption)) | exact isI.gx (isW.i5 (by assumption)) | exact isI.gc (isW.i5 (by assumption)) | exact isR.gx (by assumption) | exact isRd.gx (by assumption) | exact isSp.gx (by assumption) | exact isI.gx (isR.i (by assumption)) | exact isI.gx (isRd.i (by assumption)) | exact isI.gc (isRd.i (by assumption)) | exact isI.gx (isSp.i (by assumption)) | exact isW.gx (isR.w (by assumption)) | exact isW.gF (isR.w (by assumption)) | fail "no such object") (by rfl) ?_
    have i0 := hR.w.i0
    rw [h8] at i0
    have y0 := ci_at (G := G) (l := l) d i0 (by decide) (by decide) (i := (k : Int)) ⟨by omega, by omega⟩
    rw [atF_t (by omega) (by omega)] at y0
    refine r_callV1 (pc := 22) dX3_perform_22 qX1_at kX3_91 vX1_at (by first | assumption | exact isI.gx (by assumption) | exact isI.gc (by assumption) | exact isW.gx (by assumption) | exact isW.gF (by assumption) | exact isW.gT (by assumption) (by omega) | exact isW.gS (by assumption) (by omega) | exact isW.gK (by assumption) (by omega) | exact isW.g1 (by assumption) | exact isW.g2 (by assumption) | exact isW.g3 (by assumption) | exact isI.gx (isW.i0 (by assumption)) | exact isI.gc (isW.i0 (by assumption)) | exact isI.gx (isW.i1 (by assumption)) | exact isI.gc (isW.i1 (by assumption)) | exact isI.gx (isW.i2 (by assumption)) | exact isI.gc (isW.i2 (by assumption)) | exact isI.gx (isW.i3 (by assumption)) | exact isI.gc (isW.i3 (by assumption)) | exact isI.gx (isW.i4 (by assumption)) | exact isI.gc (isW.i4 (by assumption)) | exact isI.gx (isW.i5 (by assumption)) | exact isI.gc (isW.i5 (by assumption)) | exact isR.gx (by assumption) | exact isRd.gx (by assumption) | exact isSp.gx (by assumption) | exact isI.gx (isR.i (by assumption)) | exact isI.gx (isRd.i (by assumption)) | exact isI.gc (isRd.i (by assumption)) | exact isI.gx (isSp.i (by assumption)) | exact isW.gx (isR.w (by assumption)) | exact isW.gF (isR.w (by assumption)) | fail "no such object") rfl rfl (Nat.le_of_ble_eq_true rfl) (y0) (fun v_22 h_22 q_22 => ?_)
    obtain ⟨rfl, rfl⟩ := q_22
    have rk := hC0 k
    refine r_aload_n (pc := 25) dX3_perform_25 rfl (by first | rfl | exact isRefV_rf _) ?_
    refine r_getf (pc := 26) dX3_perform_26 fX3_184 (by first | assumption | exact isI.gx (by assumption) | exact isI.gc (by assumption) | exact isW.gx (by assumption) | exact isW.gF (by assumption) | exact isW.gT (by assumption) (by omega) | exact isW.gS (by assumption) (by omega) | exact isW.gK (by assumption) (by omega) | exact isW.g1 (by assumption) | exact isW.g2 (by assumption) | exact isW.g3 (by assumption) | exact isI.gx (isW.i0 (by assumption)) | exact isI.gc (isW.i0 (by assumption)) | exact isI.gx (isW.i1 (by assumption)) | exact isI.gc (isW.i1 (by assumption)) | exact isI.gx (isW.i2 (by assumption)) | exact isI.gc (isW.i2 (by assumption)) | exact isI.gx (isW.i3 (by assumption)) | exact isI.gc (isW.i3 (by assumption)) | exact isI.gx (isW.i4 (by assumption)) | exact isI.gc (isW.i4 (by assumption)) | exact isI.gx (isW.i5 (by assumption)) | exact isI.gc (isW.i5 (by assumption)) | exact isR.gx (by assumption) | exact isRd.gx (by assumption) | exact isSp.gx (by assumption) | exact isI.gx (isR.i (by assumption)) | exact isI.gx (isRd.i (by assumption)) | exact isI.gc (isRd.i (by assumption)) | exact isI.gx (isSp.i (by assumption)) | exact isW.gx (isR.w (by assumption)) | exact isW.gF (isR.w (by assumption)) | fail "no such object") (by rfl) ?_
    refine rj_icmp_ge (pc := 29) (tgt := 39) dX3_perform_29 (by decide) (by first | exact b01_r | exact bz_r | omega | (constructor <;> omega) | apply_assumption | (apply atF_r; assumption) | fail "no range") (by first | exact b01_r | exact bz_r | omega | (constructor <;> omega) | apply_assumption | (apply atF_r; assumption) | fail "no range") (fun c_29 => ?_) (fun c_29 => ?_)
    · refine r_null (pc := 39) dX3_perform_39 ?_
      refine r_astore_n (pc := 40) dX3_perform_40 (Nat.le_of_ble_eq_true rfl) (by first | rfl | exact isRefV_rf _) ?_
      dsimp only [lsSt, List.set, mLs, mEnt]
      refine r_aload_n (pc := 41) dX3_perform_41 rfl (by first | rfl | exact isRefV_rf _) ?_
      refine r_ifnonnull (pc := 42) (tgt := 47) dX3_perform_42 (by decide) (by first | rfl | exact isRefV_rf _) (fun a_42 c_42 => by cases c_42) (fun c_42 => ?_)
      refine rj_iconst (pc := 45) dX3_perform_45 ?_
      refine r_ireturn (pc := 46) .int dX3_perform_46 rfl (by first | rfl | assumption) ?_
      exact ⟨rfl, rfl⟩
    · exfalso; omega
end mg_9a

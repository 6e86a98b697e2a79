/-! ===== the entries of a scope one by one, on both sides ===== -/
theorem cnt_at {P : Nat → Bool} {k : Int} (h0 : 0 ≤ k) : ∀ n, k < cnt P n → ∃ p, p < n ∧ P p = true ∧ cnt P p = k
  | 0, h => by have : cnt P 0 = 0 := rfl; omega
  | n + 1, h => by
    by_cases z : k < cnt P n
    · obtain ⟨p, a, b⟩ := cnt_at h0 n z
      exact ⟨p, by omega, b⟩
    · rw [cnt_S] at h
      by_cases w : P n = true
      · rw [if_pos w] at h; exact ⟨n, by omega, w, by omega⟩
      · rw [if_neg w] at h; omega
section EN
variable {c f : Nat → Int} {i k : Int}
theorem ey_at {p : Nat} (hp : enB c f i p = true) (hk : cnt (enB c f i) p = k) : ∀ n t, t ≤ p → p < t + n → eyL c f i k n t = f p
  | 0, t, a, b => by omega
  | n + 1, t, a, b => by
    unfold eyL
    by_cases z : enB c f i t = true ∧ cnt (enB c f i) t = k
    · rw [if_pos z, cnt_two z.1 hp (z.2.trans hk.symm)]
    · have tp : ¬ t = p := fun e => z (by rw [e]; exact ⟨hp, hk⟩)
      rw [if_neg z]
      exact ey_at hp hk n (t + 1) (by omega) (by omega)
theorem ey_no : ∀ n t, (k < 0 ∨ cnt (enB c f i) (t + n) ≤ k) → eyL c f i k n t = -1
  | 0, t, _ => rfl
  | n + 1, t, h => by
    unfold eyL
    have nz : ¬ (enB c f i t = true ∧ cnt (enB c f i) t = k) := fun g => by
      have r := cnt_r (enB c f i) t
      rcases h with h | h
      · omega
      · have a := cnt_mono (p := enB c f i) (show t + 1 ≤ t + (n + 1) by omega)
        rw [cnt_S, if_pos g.1] at a
        omega
    rw [if_neg nz]
    refine ey_no n (t + 1) ?_
    rcases h with h | h
    · exact Or.inl h
    · exact Or.inr (by rw [show t + 1 + n = t + (n + 1) by omega]; exact h)
end EN
theorem stV_I {m : Nat → Int} {e : Nat} : stampV m e = stampI m (e : Int) := by
  unfold stampV stampI
  by_cases z : e < 100
  · rw [if_pos z, if_pos (by omega)]; congr 1
  · rw [if_neg z, if_neg (by omega)]; congr 1; omega
theorem ea_max {m : Nat → Int} {N C : Nat} {a st : Int} : ∀ (n e : Nat) (f : Int), -5 ≤ f → (f < 0 ∨ (entryP m N C a f.toNat ∧ stampV m f.toNat < st)) →
    (eaL m N C a st n e f = f ∨ 0 ≤ eaL m N C a st n e f) ∧ (0 ≤ eaL m N C a st n e f → entryP m N C a (eaL m N C a st n e f).toNat ∧ stampV m (eaL m N C a st n e f).toNat < st) ∧ (0 ≤ f → 0 ≤ eaL m N C a st n e f ∧ stampV m f.toNat ≤ stampV m (eaL m N C a st n e f).toNat) ∧
    ∀ u, e ≤ u → u < e + n → entryP m N C a u → stampV m u < st → 0 ≤ eaL m N C a st n e f ∧ stampV m u ≤ stampV m (eaL m N C a st n e f).toNat
  | 0, e, f, h5, hf => ⟨Or.inl rfl, fun g => by
      rcases hf with x | x
      · exact absurd g (by show ¬ 0 ≤ f; omega)
      · exact x, fun g => ⟨g, Int.le_refl _⟩, fun u x y => by omega⟩
  | n + 1, e, f, h5, hf => by
    unfold eaL
    by_cases z : entryP m N C a e ∧ stampV m e < st ∧ (f < 0 ∨ stampV m f.toNat < stampV m e)
    · rw [if_pos z]
      obtain ⟨a1, a2, a3, a4⟩ := ea_max (N := N) (C := C) (a := a) (st := st) n (e + 1) (e : Int) (by omega) (Or.inr (by rw [show ((e : Int)).toNat = e by omega]; exact ⟨z.1, z.2.1⟩))
      rw [show ((e : Int)).toNat = e by omega] at a3
      obtain ⟨b1, b2⟩ := a3 (by omega)
      refine ⟨Or.inr b1, a2, fun g => ⟨b1, ?_⟩, fun u x y z1 z2 => ?_⟩
      · rcases z.2.2 with w | w <;> omega
      · by_cases w : u = e
        · subst w; exact ⟨b1, b2⟩
        · exact a4 u (by omega) (by omega) z1 z2
    · rw [if_neg z]
      obtain ⟨a1, a2, a3, a4⟩ := ea_max (N := N) (C := C) (a := a) (st := st) n (e + 1) f h5 hf
      refine ⟨a1, a2, a3, fun u x y z1 z2 => ?_⟩
      by_cases w : u = e
      · subst w
        have w2 : 0 ≤ f ∧ ¬ stampV m f.toNat < stampV m u := by
          refine ⟨?_, fun g => z ⟨z1, z2, Or.inr g⟩⟩
          by_cases q : 0 ≤ f
          · exact q
          · exact absurd ⟨z1, z2, Or.inl (by omega)⟩ z
        obtain ⟨b1, b2⟩ := a3 w2.1
        exact ⟨b1, by omega⟩
      · exact a4 u (by omega) (by omega) z1 z2
section EV
variable {m pool c : Nat → Int} {S : Nat → Option mO} {C : Nat → Nat → Int} {nm : Nat → Int64} {g : Nat → Option Nat} {a : Int} {Z N K : Nat}
/-- the entries of both sides -/
def entE (m c f : Nat → Int) (N K Z : Nat) (a : Int) : Prop := (∀ j, j < Z → 0 ≤ f j ∧ f j < 160) ∧ (∀ j k, j < k → k < Z → stampI m (f j) < stampI m (f k)) ∧ (∀ j, j < Z → enB c f a j = true → entryP m N K a (f j).toNat) ∧ (∀ e : Nat, entryP m N K a e → ∃ j, j < Z ∧ f j = e ∧ enB c f a j = true) ∧ ∀ j, j < Z → stampI m (f j) ≤ m 6
theorem ent_of (h : CR m pool S c C nm g) (hok : mOk m) (hs : ScI m) (hnc : NC m) (hst : ∀ t : Nat, (t : Int) < m 1 → 0 ≤ m (258 + 14 * t) ∧ m (258 + 14 * t) ≤ 2) (hZ : c 10 = (Z : Int)) (hN : m 1 = (N : Int)) (hK : m 0 = (K : Int)) : entE m c (C 2) N K Z a := by
  have k0 := hok.2.1
  have k1 := hok.2.2.1
  obtain ⟨n0, T, A, -, -, ⟨Z', e0⟩, -⟩ := h
  obtain ⟨e1, e2, e3, e4, e5, e6⟩ := e0
  obtain rfl : Z' = Z := by omega
  have ot : ∀ t : Nat, (t : Int) < m 1 → ownF c (t : Int) = m (259 + 14 * t) := fun t ht => by rw [ownF_t (by rw [n0.1]; exact ht) (by omega), (T t ht).2.1]
  have os : ∀ s : Nat, (s : Int) < m 0 → ownF c (100 + (s : Int)) = m (19 + 4 * s) := fun s hs' => by rw [ownF_s (by rw [n0.2.1]; exact hs') (by omega), (A s hs').2.1]
  refine ⟨fun j hj => ?_, e4, fun j hj hb => ?_, fun e he => ?_, fun j hj => e6 _ (e3 j hj)⟩
  · rcases e3 j hj with ⟨t, x, y, -⟩ | ⟨s, x, -, y, -⟩ <;> omega
  · have hb : ownF c (C 2 j) = a := of_decide_eq_true hb
    rcases e3 j hj with ⟨t, x, y, z⟩ | ⟨s, x, z1, y, z2⟩
    · rw [x, ot t y] at hb
      rw [x, show ((t : Int)).toNat = t by omega]
      unfold entryP
      rw [if_pos (by omega)]
      have r := hst t y
      have q := hnc t y
      exact ⟨by omega, by omega, hb⟩
    · rw [x, os s y] at hb
      rw [x, show (100 + (s : Int)).toNat = 100 + s by omega]
      unfold entryP
      rw [if_neg (by omega), show 100 + s - 100 = s by omega]
      exact ⟨by omega, by omega, z2, hb⟩
  · unfold entryP at he
    by_cases w : e < 100
    · rw [if_pos w] at he
      have ht : (e : Int) < m 1 := by omega
      obtain ⟨j, x, y⟩ := e5 (e : Int) (Or.inl ⟨e, rfl, ht, by omega⟩)
      exact ⟨j, x, y, decide_eq_true (by rw [y, ot e ht]; exact he.2.2)⟩
    · rw [if_neg w] at he
      obtain ⟨s, rfl⟩ : ∃ s, e = 100 + s := ⟨e - 100, by omega⟩
      rw [show 100 + s - 100 = s by omega] at he
      have hs' : (s : Int) < m 0 := by omega
      obtain ⟨j, x, y⟩ := e5 (100 + (s : Int)) (Or.inr ⟨s, rfl, by omega, hs', he.2.2.1⟩)
      exact ⟨j, x, by omega, decide_eq_true (by rw [y, os s hs']; exact he.2.2.2)⟩
/-- the next one below a stamp -/
theorem ea_step {f : Nat → Int} (h : entE m c f N K Z a) {st : Int} {P : Nat} (hP : P ≤ Z) (hst : ∀ j, j < Z → enB c f a j = true → (stampI m (f j) < st ↔ j < P)) (h1 : 1 ≤ cnt (enB c f a) P) : ∃ p, p < P ∧ enB c f a p = true ∧ cnt (enB c f a) p = cnt (enB c f a) P - 1 ∧ eaV m N K a st = f p := by
  obtain ⟨h2, h3, h4, h5, -⟩ := h
  obtain ⟨p, p1, p2, p3⟩ := cnt_at (P := enB c f a) (k := cnt (enB c f a) P - 1) (by omega) P (by omega)
  refine ⟨p, p1, p2, p3, ?_⟩
  have key := ea_max (m := m) (N := N) (C := K) (a := a) (st := st) 160 0 (-5) (by decide) (Or.inl (by decide))
  unfold eaV
  generalize eaL m N K a st 160 0 (-5) = r at key ⊢
  obtain ⟨a1, a2, a3, a4⟩ := key
  have fp := h2 p (by omega)
  have ep := h4 p (by omega) p2
  have sp := (hst p (by omega) p2).mpr p1
  have cp : ((((f p).toNat : Nat)) : Int) = f p := by omega
  obtain ⟨b1, b2⟩ := a4 (f p).toNat (Nat.zero_le _) (by omega) ep (by rw [stV_I, cp]; exact sp)
  obtain ⟨c1, c2⟩ := a2 b1
  obtain ⟨j, j1, j2, j3⟩ := h5 _ c1
  rw [stV_I, ← j2] at c2
  rw [stV_I, stV_I, cp, ← j2] at b2
  have jP := (hst j j1 j3).mp c2
  have jp : j = p := by
    rcases Nat.lt_trichotomy j p with x | x | x
    · have := h3 j p x (by omega); omega
    · exact x
    · exfalso
      have y := cnt_mono (p := enB c f a) (show j + 1 ≤ P by omega)
      have y2 := cnt_mono (p := enB c f a) (show p + 1 ≤ j by omega)
      rw [cnt_S, if_pos j3] at y
      rw [cnt_S, if_pos p2] at y2
      omega
  rw [jp] at j2
  omega
theorem en_step {f : Nat → Int} (h : entE m c f N K Z a) : ∀ (n p : Nat), p < Z → enB c f a p = true → (n : Int) ≤ cnt (enB c f a) p → ∃ p2, p2 < Z ∧ enB c f a p2 = true ∧ cnt (enB c f a) p2 = cnt (enB c f a) p - n ∧ enL m N K a n (f p) = f p2
  | 0, p, hp, hb, _ => ⟨p, hp, hb, by omega, rfl⟩
  | n + 1, p, hp, hb, hn => by
    obtain ⟨q, q1, q2, q3, q4⟩ := ea_step h (st := stampI m (f p)) (P := p) (by omega) (fun j hj _ => by
      constructor
      · intro x
        rcases Nat.lt_trichotomy j p with y | y | y
        · exact y
        · rw [y] at x; omega
        · have := h.2.1 p j y hj; omega
      · intro x; exact h.2.1 j p x hp) (by omega)
    obtain ⟨p2, w1, w2, w3, w4⟩ := en_step h n q (by omega) q2 (by omega)
    exact ⟨p2, w1, w2, by omega, by show enL m N K a n (eaV m N K a (stampI m (f p))) = f p2; rw [q4]; exact w4⟩
theorem entry_both (h : CR m pool S c C nm g) (hok : mOk m) (hs : ScI m) (hnc : NC m) (hst : ∀ t : Nat, (t : Int) < m 1 → 0 ≤ m (258 + 14 * t) ∧ m (258 + 14 * t) ≤ 2) (hZ : c 10 = (Z : Int)) (hN : m 1 = (N : Int)) (hK : m 0 = (K : Int)) (ha : 0 ≤ a ∧ a ≤ m 0 - 1) {k : Int} : eyL c (C 2) a k Z 0 = entryV m N K a k := by
  have he := ent_of (a := a) h hok hs hnc hst hZ hN hK
  have tot := en_eq h hok hs hnc hst ha.1 hZ hN hK
  unfold entryV
  by_cases w : 0 ≤ k ∧ k ≤ entsN m a N K - 1
  · rw [if_pos ⟨ha, w⟩]
    obtain ⟨q, q1, q2, q3, q4⟩ := ea_step he (st := m 6 + 1) (P := Z) (Nat.le_refl _) (fun j hj _ => ⟨fun _ => hj, fun _ => by have := he.2.2.2.2 j hj; omega⟩) (by omega)
    obtain ⟨p2, w1, w2, w3, w4⟩ := en_step he (entsN m a N K - 1 - k).toNat q q1 q2 (by omega)
    rw [q4, w4]
    exact ey_at w2 (by omega) Z 0 (Nat.zero_le _) (by omega)
  · rw [if_neg (fun z => w z.2)]
    refine ey_no Z 0 ?_
    rw [Nat.zero_add, tot]
    omega
end EV

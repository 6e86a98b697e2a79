section mg_c1
section BN
variable {m c : Nat → Int} {nm : Nat → Int64}
/-- a name's letters -/
theorem name_eq (hT : crT m c nm) {t : Nat} (ht : (t : Int) < m 1) : lnL (nm t) 7 0 = m (261 + 14 * t) ∧ ∀ i : Int, letV (nm t) i = if 0 ≤ i ∧ i ≤ m (261 + 14 * t) - 1 then m (265 + 14 * t + i).toNat else 0 := by
  obtain ⟨-, -, -, q1, q2, q3⟩ := hT t ht
  obtain ⟨a, ea⟩ : ∃ a : Nat, m (261 + 14 * t) = a := ⟨(m (261 + 14 * t)).toNat, by omega⟩
  have lt : ∀ j, 265 + 14 * t ≤ j → j < 265 + 14 * t + a → isLt (m j) := fun j h1 h2 => by
    have := q3 (j - (265 + 14 * t)) (by omega)
    rw [show 265 + 14 * t + (j - (265 + 14 * t)) = j by omega] at this; exact this
  rw [q1]
  unfold nmR
  rw [ea, show ((a : Int)).toNat = a by omega]
  refine ⟨?_, fun i => ?_⟩
  · rw [lnL_n lt ⟨by omega, by omega⟩ 7 0 (by omega) (by omega)]; omega
  · by_cases z : 0 ≤ i ∧ i < 7
    · obtain ⟨k, rfl⟩ : ∃ k : Nat, i = k := ⟨i.toNat, by omega⟩
      rw [letV_n lt (by omega)]
      by_cases w : k < a
      · rw [if_pos (by omega), if_pos ⟨by omega, by omega⟩]; congr 1
      · rw [if_neg (by omega), if_neg (by omega)]
    · rw [letV_o z, if_neg (by omega)]
end BN
end mg_c1
section mg_c2
/-! ===== the plan of a scope, on both sides ===== -/
section PN
variable {m c f : Nat → Int} {N C K Z : Nat}
theorem chain_one (hp : parI m C) {s a i j x y : Nat} (hs : s < C) (hij : i ≤ j) (hx : x < C) (hy : y < C) (px : m (19 + 4 * x) = s) (py : m (19 + 4 * y) = s) (hi : itP m i a = some x) (hj : itP m j a = some y) : x = y := by
  have no : ∀ i c : Nat, c < C → m (19 + 4 * c) = s → itP m i s = some c → False := by
    intro i c hc hcs hi
    have := (itP_le hp i s c hs hi).1
    have := hp c hc
    omega
  have ha := itP_add i (j - i) _ x hi
  rw [show i + (j - i) = j by omega, hj] at ha
  cases hk : j - i with
  | zero =>
    rw [hk] at ha
    have : some y = some x := ha
    cases this; rfl
  | succ n =>
    rw [hk] at ha
    unfold itP at ha
    rw [if_pos (by omega), px] at ha
    exact (no n y hy py (by rw [ha]; rw [show ((s : Int)).toNat = s by omega])).elim
/-- scopes in an entry, scopes in entries with an elder stamp -/
noncomputable def dsN (m : Nat → Int) (C a : Nat) : Int := cnt (fun x => bP (∃ i, itP m i x = some a)) C
def vis (m : Nat → Int) (N C s : Nat) (st : Int) (x : Nat) : Prop := ∃ e : Nat, 100 < e ∧ entryP m N C s e ∧ stampV m e < st ∧ ∃ i, itP m i x = some (e - 100)
noncomputable def visN (m : Nat → Int) (N C s : Nat) (st : Int) : Int := cnt (fun x => bP (vis m N C s st x)) C
theorem vis_mono {s : Nat} {st st' : Int} (h : st ≤ st') : visN m N C s st ≤ visN m N C s st' := by
  refine cnt_le C (fun t _ z => ?_)
  rw [bP_t] at z ⊢
  obtain ⟨e, z1, z2, z3, z4⟩ := z
  exact ⟨e, z1, z2, by omega, z4⟩
theorem vis_split (hp : parI m C) {s e : Nat} {st : Int} (hs : s < C) (he : 100 < e) (h : entryP m N C s e) (hst : stampV m e < st) : visN m N C s (stampV m e) + dsN m C (e - 100) ≤ visN m N C s st := by
  have pe : ∀ {e : Nat}, 100 < e → entryP m N C s e → e - 100 < C ∧ m (19 + 4 * (e - 100)) = s := fun {e} h1 h2 => by
    rcases entP_c h2 with ⟨a, -⟩ | ⟨a1, a2, a3⟩
    · omega
    · exact ⟨by omega, a3⟩
  refine cnt_add C (fun t ht z => ?_) (fun t ht z => ?_) (fun t ht z w => ?_)
  · rw [bP_t] at z ⊢
    obtain ⟨e', z1, z2, z3, z4⟩ := z
    exact ⟨e', z1, z2, by omega, z4⟩
  · rw [bP_t] at z ⊢
    exact ⟨e, he, h, hst, z⟩
  · rw [bP_t] at z w
    obtain ⟨e', z1, z2, z3, i, zi⟩ := z
    obtain ⟨j, wj⟩ := w
    obtain ⟨a1, a2⟩ := pe z1 z2
    obtain ⟨b1, b2⟩ := pe he h
    have : e' - 100 = e - 100 := by
      by_cases q : i ≤ j
      · exact chain_one hp hs q a1 b1 a2 b2 zi wj
      · exact (chain_one hp hs (by omega) b1 a1 b2 a2 wj zi).symm
    have : e' = e := by omega
    subst this
    omega
theorem vis_in (hp : parI m C) {a : Nat} {st : Int} (ha : a < C) : visN m N C a st + 1 ≤ dsN m C a := by
  have h1 : cnt (fun q => decide (q = a)) C = 1 := by
    have := cnt_upd (p := fun _ => false) (p' := fun q => decide (q = a)) (t := a) (M := C) rfl (by simp) (fun q _ hq => by simp [hq]) C (Nat.le_refl _)
    rw [if_pos ha, cnt_zero (p := fun _ => false) C (fun _ _ => rfl)] at this
    omega
  have := cnt_add (p1 := fun x => bP (vis m N C a st x)) (p2 := fun q => decide (q = a)) (p := fun x => bP (∃ i, itP m i x = some a)) C (fun t ht z => by
      rw [bP_t] at z ⊢
      obtain ⟨e, z1, z2, z3, i, zi⟩ := z
      rcases entP_c z2 with ⟨b, -⟩ | ⟨b1, b2, b3⟩
      · omega
      · refine ⟨i + 1, ?_⟩
        rw [itP_add i 1 _ _ zi]
        unfold itP
        rw [if_pos (by omega), b3]
        rfl) (fun t ht z => by
      rw [decide_eq_true_eq] at z
      subst z
      rw [bP_t]; exact ⟨0, rfl⟩) (fun t ht z w => by
      rw [decide_eq_true_eq] at w
      subst w
      rw [bP_t] at z
      obtain ⟨e, z1, z2, z3, i, zi⟩ := z
      rcases entP_c z2 with ⟨b, -⟩ | ⟨b1, b2, b3⟩
      · omega
      · have q := (itP_le hp i _ _ ht zi).1
        have q2 := hp (e - 100) (by omega)
        omega)
  unfold visN dsN
  omega
theorem pe_at {e : Int} {q : Nat} (hq : f q = e) (hn : ∀ j, j < q → ¬ f j = e) : ∀ n t, t ≤ q → q < t + n → peL f e n t = q
  | 0, t, a, b => by omega
  | n + 1, t, a, b => by
    unfold peL
    by_cases z : t = q
    · subst z; rw [if_pos hq]
    · rw [if_neg (hn t (by omega))]
      exact pe_at hq hn n (t + 1) (by omega) (by omega)
/-- the next entry below a place -/
theorem ea_next {a : Int} (h : entE m c f N K Z a) {st : Int} {P : Nat} (hP : P ≤ Z) (hst : ∀ j, j < Z → enB c f a j = true → (stampI m (f j) < st ↔ j < P)) : (eaV m N K a st < 0 ∧ ∀ j, j < P → ¬ enB c f a j = true) ∨ ∃ q, q < P ∧ enB c f a q = true ∧ eaV m N K a st = f q ∧ ∀ j, q < j → j < P → ¬ enB c f a j = true := by
  by_cases z : 1 ≤ cnt (enB c f a) P
  · obtain ⟨q, q1, q2, q3, q4⟩ := ea_step h hP hst z
    refine Or.inr ⟨q, q1, q2, q4, fun j j1 j2 w => ?_⟩
    have y := cnt_mono (p := enB c f a) (show j + 1 ≤ P by omega)
    have y2 := cnt_mono (p := enB c f a) (show q + 1 ≤ j by omega)
    rw [cnt_S, if_pos w] at y
    rw [cnt_S, if_pos q2] at y2
    omega
  · have no : ∀ j, j < P → ¬ enB c f a j = true := fun j hj w => z (cnt_one w P hj)
    refine Or.inl ⟨?_, no⟩
    have key := ea_max (m := m) (N := N) (C := K) (a := a) (st := st) 160 0 (-5) (by decide) (Or.inl (by decide))
    unfold eaV
    generalize eaL m N K a st 160 0 (-5) = r at key ⊢
    obtain ⟨a1, a2, -, -⟩ := key
    by_cases w : 0 ≤ r
    · exfalso
      obtain ⟨c1, c2⟩ := a2 w
      obtain ⟨j, j1, j2, j3⟩ := h.2.2.2.1 _ c1
      rw [stV_I, ← j2] at c2
      exact no j ((hst j j1 j3).mp c2) j3
    · omega
/-- the class's rounds in one scope, from a place on -/
def PCS (c f : Nat → Int) (Z : Nat) (s0 : Int) (s P k k' : Nat) (p p' : Nat → Int) (R : Nat) : Prop :=
  k ≤ k' ∧ (∀ u, u < k → p' u = p u) ∧ ∀ (i : Int) (M : Nat), pcL c f Z s0 i (R + M) s ((P : Int) - 1) k = if (k : Int) ≤ i ∧ i < k' then p' i.toNat else pcL c f Z s0 i M s (-1) k'
theorem pc_scan {s0 i : Int} {s k : Nat} {P : Nat} : ∀ d M, d ≤ P → (∀ j, P - d ≤ j → j < P → ¬ enB c f s j = true) → pcL c f Z s0 i (d + M) s ((P : Int) - 1) k = pcL c f Z s0 i M s ((P : Int) - d - 1) k
  | 0, M, _, _ => by rw [Nat.zero_add, show (P : Int) - ((0 : Nat) : Int) - 1 = (P : Int) - 1 by omega]
  | d + 1, M, hd, h => by
    have ih := pc_scan (s0 := s0) (i := i) (s := s) (k := k) d (M + 1) (by omega) (fun j a b => h j (by omega) b)
    rw [show d + 1 + M = d + (M + 1) by omega, ih]
    have e : (P : Int) - d - 1 = ((P - (d + 1) : Nat) : Int) := by omega
    have n := h (P - (d + 1)) (by omega) (by omega)
    show (if (P : Int) - d - 1 < 0 then _ else if ¬ ownF c (f ((P : Int) - d - 1).toNat) = s then pcL c f Z s0 i M s ((P : Int) - d - 1 - 1) k else _) = _
    rw [if_neg (by omega), if_pos (by rw [e, show (((P - (d + 1) : Nat) : Int)).toNat = P - (d + 1) by omega]; exact fun g => n (decide_eq_true g))]
    congr 1; omega
end PN
end mg_c2

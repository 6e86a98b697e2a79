/-! ===== the plan of a scope, on both sides ===== -/
section PN
variable {m c f : Nat → Int} {N C K Z : Nat}
theorem chain_one (hp : parI m C) {s a i j x y : Nat} (hs : s < C) (hij : i ≤ j) (hx : x < C) (hy : y < C) (px : m (19 + 4 * x) = s) (py : m (19 + 4 * y) = s) (hi : itP m i a = some x) (hj : itP m j a = some y) : x = y := by
  have no : ∀ i c : Nat, c < C → m (19 + 4 * c) = s → itP m i s = some c → False := by
    intro i c hc hcs hi
    have := (itP_le hp i s c hs hi).1
    have := hp c hc
    omega
  have ha := itP_add i (j - i) _ x hi
  rw [show i + (j - i) = j by omega, hj] at ha
  cases hk : j - i with
  | zero =>
    rw [hk] at ha
    have : some y = some x := ha
    cases this; rfl
  | succ n =>
    rw [hk] at ha
    unfold itP at ha
    rw [if_pos (by omega), px] at ha
    exact (no n y hy py (by rw [ha]; rw [show ((s : Int)).toNat = s by omega])).elim
/-- scopes in an entry, scopes in entries with an elder stamp -/
noncomputable def dsN (m : Nat → Int) (C a : Nat) : Int := cnt (fun x => bP (∃ i, itP m i x = some a)) C
def vis (m : Nat → Int) (N C s : Nat) (st : Int) (x : Nat) : Prop := ∃ e : Nat, 100 < e ∧ entryP m N C s e ∧ stampV m e < st ∧ ∃ i, itP m i x = some (e - 100)
noncomputable def visN (m : Nat → Int) (N C s : Nat) (st : Int) : Int := cnt (fun x => bP (vis m N C s st x)) C
theorem vis_mono {s : Nat} {st st' : Int} (h : st ≤ st') : visN m N C s st ≤ visN m N C s st' := by
  refine cnt_le C (fun t _ z => ?_)
  rw [bP_t] at z ⊢
  obtain ⟨e, z1, z2, z3, z4⟩ := z
  exact ⟨e, z1, z2, by omega, z4⟩
theorem vis_split (hp : parI m C) {s e : Nat} {st : Int} (hs : s < C) (he : 100 < e) (h : entryP m N C s e) (hst : stampV m e < st) : visN m N C s (stampV m e) + dsN m C (e - 100) ≤ visN m N C s st := by
  have pe : ∀ {e : Nat}, 100 < e → entryP m N C s e → e - 100 < C ∧ m (19 + 4 * (e - 100)) = s := fun {e} h1 h2 => by
    rcases entP_c h2 with ⟨a, -⟩ | ⟨a1, a2, a3⟩
    · omega
    · exact ⟨by omega, a3⟩
  refine cnt_add C (fun t ht z => ?_) (fun t ht z => ?_) (fun t ht z w => ?_)
  · rw [bP_t] at z ⊢
    obtain ⟨e', z1, z2, z3, z4⟩ := z
    exact ⟨e', z1, z2, by omega, z4⟩
  · rw [bP_t] at z ⊢
    exact ⟨e, he, h, hst, z⟩
  · rw [bP_t] at z w
    obtain ⟨e', z1, z2, z3, i, zi⟩ := z
    obtain ⟨j, wj⟩ := w
    obtain ⟨a1, a2⟩ := pe z1 z2
    obtain ⟨b1, b2⟩ := pe he h
    have : e' - 100 = e - 100 := by
      by_cases q : i ≤ j
      · exact chain_one hp hs q a1 b1 a2 b2 zi wj
      · exact (chain_one hp hs (by omega) b1 a1 b2 a2 wj zi).symm
    have : e' = e := by omega
    subst this
    omega
theorem vis_in (hp : parI m C) {a : Nat} {st : Int} (ha : a < C) : visN m N C a st + 1 ≤ dsN m C a := by
  have h1 : cnt (fun q => decide (q = a)) C = 1 := by
    have := cnt_upd (p := fun _ => false) (p' := fun q => decide (q = a)) (t := a) (M := C) rfl (by simp) (fun q _ hq => by simp [hq]) C (Nat.le_refl _)
    rw [if_pos ha, cnt_zero (p := fun _ => false) C (fun _ _ => rfl)] at this
    omega
  have := cnt_add (p1 := fun x => bP (vis m N C a st x)) (p2 := fun q => decide (q = a)) (p := fun x => bP (∃ i, itP m i x = some a)) C (fun t ht z => by
      rw [bP_t] at z ⊢
      obtain ⟨e, z1, z2, z3, i, zi⟩ := z
      rcases entP_c z2 with ⟨b, -⟩ | ⟨b1, b2, b3⟩
      · omega
      · refine ⟨i + 1, ?_⟩
        rw [itP_add i 1 _ _ zi]
        unfold itP
        rw [if_pos (by omega), b3]
        rfl) (fun t ht z => by
      rw [decide_eq_true_eq] at z
      subst z
      rw [bP_t]; exact ⟨0, rfl⟩) (fun t ht z w => by
      rw [decide_eq_true_eq] at w
      subst w
      rw [bP_t] at z
      obtain ⟨e, z1, z2, z3, i, zi⟩ := z
      rcases entP_c z2 with ⟨b, -⟩ | ⟨b1, b2, b3⟩
      · omega
      · have q := (itP_le hp i _ _ ht zi).1
        have q2 := hp (e - 100) (by omega)
        omega)
  unfold visN dsN
  omega
theorem pe_at {e : Int} {q : Nat} (hq : f q = e) (hn : ∀ j, j < q → ¬ f j = e) : ∀ n t, t ≤ q → q < t + n → peL f e n t = q
  | 0, t, a, b => by omega
  | n + 1, t, a, b => by
    unfold peL
    by_cases z : t = q
    · subst z; rw [if_pos hq]
    · rw [if_neg (hn t (by omega))]
      exact pe_at hq hn n (t + 1) (by omega) (by omega)
/-- the next entry below a place -/
theorem ea_next {a : Int} (h : entE m c f N K Z a) {st : Int} {P : Nat} (hP : P ≤ Z) (hst : ∀ j, j < Z → enB c f a j = true → (stampI m (f j) < st ↔ j < P)) : (eaV m N K a st < 0 ∧ ∀ j, j < P → ¬ enB c f a j = true) ∨ ∃ q, q < P ∧ enB c f a q = true ∧ eaV m N K a st = f q ∧ ∀ j, q < j → j < P → ¬ enB c f a j = true := by
  by_cases z : 1 ≤ cnt (enB c f a) P
  · obtain ⟨q, q1, q2, q3, q4⟩ := ea_step h hP hst z
    refine Or.inr ⟨q, q1, q2, q4, fun j j1 j2 w => ?_⟩
    have y := cnt_mono (p := enB c f a) (show j + 1 ≤ P by omega)
    have y2 := cnt_mono (p := enB c f a) (show q + 1 ≤ j by omega)
    rw [cnt_S, if_pos w] at y
    rw [cnt_S, if_pos q2] at y2
    omega
  · have no : ∀ j, j < P → ¬ enB c f a j = true := fun j hj w => z (cnt_one w P hj)
    refine Or.inl ⟨?_, no⟩
    have key := ea_max (m := m) (N := N) (C := K) (a := a) (st := st) 160 0 (-5) (by decide) (Or.inl (by decide))
    unfold eaV
    generalize eaL m N K a st 160 0 (-5) = r at key ⊢
    obtain ⟨a1, a2, -, -⟩ := key
    by_cases w : 0 ≤ r
    · exfalso
      obtain ⟨c1, c2⟩ := a2 w
      obtain ⟨j, j1, j2, j3⟩ := h.2.2.2.1 _ c1
      rw [stV_I, ← j2] at c2
      exact no j ((hst j j1 j3).mp c2) j3
    · omega
/-- the class's rounds in one scope, from a place on -/
def PCS (c f : Nat → Int) (Z : Nat) (s0 : Int) (s P k k' : Nat) (p p' : Nat → Int) (R : Nat) : Prop :=
  k ≤ k' ∧ (∀ u, u < k → p' u = p u) ∧ ∀ (i : Int) (M : Nat), pcL c f Z s0 i (R + M) s ((P : Int) - 1) k = if (k : Int) ≤ i ∧ i < k' then p' i.toNat else pcL c f Z s0 i M s (-1) k'
theorem pc_scan {s0 i : Int} {s k : Nat} {P : Nat} : ∀ d M, d ≤ P → (∀ j, P - d ≤ j → j < P → ¬ enB c f s j = true) → pcL c f Z s0 i (d + M) s ((P : Int) - 1) k = pcL c f Z s0 i M s ((P : Int) - d - 1) k
  | 0, M, _, _ => by rw [Nat.zero_add, show (P : Int) - ((0 : Nat) : Int) - 1 = (P : Int) - 1 by omega]
  | d + 1, M, hd, h => by
    have ih := pc_scan (s0 := s0) (i := i) (s := s) (k := k) d (M + 1) (by omega) (fun j a b => h j (by omega) b)
    rw [show d + 1 + M = d + (M + 1) by omega, ih]
    have e : (P : Int) - d - 1 = ((P - (d + 1) : Nat) : Int) := by omega
    have n := h (P - (d + 1)) (by omega) (by omega)
    show (if (P : Int) - d - 1 < 0 then _ else if ¬ ownF c (f ((P : Int) - d - 1).toNat) = s then pcL c f Z s0 i M s ((P : Int) - d - 1 - 1) k else _) = _
    rw [if_neg (by omega), if_pos (by rw [e, show (((P - (d + 1) : Nat) : Int)).toNat = P - (d + 1) by omega]; exact fun g => n (decide_eq_true g))]
    congr 1; omega
theorem pc_loop (hE : ∀ a : Nat, entE m c f N K Z a) (hN : m 1 = (N : Int)) (hK : m 0 = (K : Int)) (hp : parI m K) (hsc : ∀ j, j < Z → 100 ≤ f j → 100 < f j) (hinj : ∀ j k, j < k → k < Z → ¬ f j = f k) {s0 : Nat} {n s : Nat} (hs : s < K) (h0 : s0 ≤ s)
    (hpl : ∀ (a : Nat) p k p' k', s < a → a < K → plR m n a p k p' k' → ∃ R : Nat, (R : Int) ≤ Z + (Z + 2) * visN m N K a (m 6 + 1) ∧ PCS c f Z s0 a Z k k' p p' R) :
    ∀ (j : Nat) (e : Int) (p : Nat → Int) (k : Nat) (p' : Nat → Int) (k' : Nat) (P : Nat) (st : Int), P ≤ Z → (∀ j, j < Z → enB c f s j = true → (stampI m (f j) < st ↔ j < P)) → e = eaI m s st → plLR (plR m n) m s j e p k p' k' → ∃ R : Nat, (R : Int) ≤ P + (Z + 2) * visN m N K s st ∧ PCS c f Z s0 s P k k' p p' R
  | j, e, p, k, p', k', P, st, hPZ, hst, he, hL => by
    have eN : (m 1).toNat = N := by omega
    have eK : (m 0).toNat = K := by omega
    unfold eaI at he
    rw [eN, eK] at he
    have v0 : 0 ≤ visN m N K s st := (cnt_r _ _).1
    have zv : 0 ≤ (Z + 2) * visN m N K s st := Int.mul_nonneg (by omega) v0
    rcases ea_next (hE s) hPZ hst with ⟨x, no⟩ | ⟨q, q1, q2, q3, no⟩
    · have hh : p' = p ∧ k' = k := by
        cases j with
        | zero => exact hL.2
        | succ j =>
          rcases hL with ⟨-, y⟩ | ⟨y, -⟩ | ⟨y, -⟩
          · exact y
          · omega
          · omega
      obtain ⟨rfl, rfl⟩ := hh
      refine ⟨P, by omega, Nat.le_refl _, fun _ _ => rfl, fun i M => ?_⟩
      rw [pc_scan P M (Nat.le_refl _) (fun j _ b => no j b), if_neg (by omega), show (P : Int) - P - 1 = -1 by omega]
    · rw [q3] at he
      have fq := (hE s).1 q (by omega)
      have ow : ownF c (f q) = s := of_decide_eq_true q2
      have scan : ∀ i M, pcL c f Z s0 i (P - 1 - q + M) s ((P : Int) - 1) k = pcL c f Z s0 i M s (q : Int) k := fun i M => by
        rw [pc_scan (P - 1 - q) M (by omega) (fun j a b => no j (by omega) b), show (P : Int) - ((P - 1 - q : Nat) : Int) - 1 = (q : Int) by omega]
      have hst2 : ∀ j, j < Z → enB c f s j = true → (stampI m (f j) < stampI m e ↔ j < q) := fun j hj _ => by
        rw [he]
        constructor
        · intro w
          rcases Nat.lt_trichotomy j q with y | y | y
          · exact y
          · subst y; omega
          · have := (hE s).2.1 q j y hj; omega
        · intro w; exact (hE s).2.1 j q w (by omega)
      have lt := (hst q (by omega) q2).mpr q1
      have ent := (hE s).2.2.1 q (by omega) q2
      have vm := vis_mono (m := m) (N := N) (C := K) (s := s) (st := stampI m e) (st' := st) (by rw [he]; omega)
      cases j with
      | zero => have := hL.1; omega
      | succ j =>
        rcases hL with ⟨y, -⟩ | ⟨y, -, hL⟩ | ⟨y, p1, k1, ha, hL⟩
        · omega
        · obtain ⟨R, r1, r2, r3, r4⟩ := pc_loop hE hN hK hp hsc hinj hs h0 hpl j _ _ _ _ _ q (stampI m e) (by omega) hst2 rfl hL
          have zm : (Z + 2) * visN m N K s (stampI m e) ≤ (Z + 2) * visN m N K s st := Int.mul_le_mul_of_nonneg_left vm (by omega)
          refine ⟨P - 1 - q + (1 + R), by omega, by omega, fun u hu => by rw [r3 u (by omega), updI_n (by omega)], fun i M => ?_⟩
          rw [show P - 1 - q + (1 + R) + M = P - 1 - q + (R + M + 1) by omega, scan]
          show (if (q : Int) < 0 then _ else if ¬ ownF c (f ((q : Int)).toNat) = s then _ else if 100 ≤ f ((q : Int)).toNat then _ else if (k : Int) = i then f ((q : Int)).toNat else pcL c f Z s0 i (R + M) s ((q : Int) - 1) ((k : Int) + 1)) = _
          rw [show ((q : Int)).toNat = q by omega, if_neg (by omega), if_neg (fun g => g ow), if_neg (by omega)]
          by_cases w : (k : Int) = i
          · rw [if_pos w, if_pos ⟨by omega, by omega⟩, show i.toNat = k by omega, r3 k (by omega), updI_s, he]
          · rw [if_neg w]
            have y2 := r4 i M
            rw [show ((k + 1 : Nat) : Int) = (k : Int) + 1 by omega] at y2
            rw [y2]
            by_cases w2 : (k : Int) + 1 ≤ i ∧ i < k'
            · rw [if_pos w2, if_pos ⟨by omega, w2.2⟩]
            · rw [if_neg w2, if_neg (by omega)]
        · have big := hsc q (by omega) (by omega)
          obtain ⟨a, ea⟩ : ∃ a : Nat, f q = 100 + (a : Int) := ⟨(f q - 100).toNat, by omega⟩
          have ent2 : entryP m N K s (100 + a) := by rw [ea, show (100 + (a : Int)).toNat = 100 + a by omega] at ent; exact ent
          have par : a < K ∧ m (19 + 4 * a) = s := by
            rcases entP_c ent2 with ⟨b, -⟩ | ⟨b1, b2, b3⟩
            · omega
            · rw [show 100 + a - 100 = a by omega] at b3; exact ⟨by omega, b3⟩
          have pa := hp a par.1
          rw [par.2] at pa
          rw [show e - 100 = (a : Int) by omega] at ha
          obtain ⟨Ra, ra1, ra2, ra3, ra4⟩ := hpl a _ _ _ _ (by omega) par.1 ha
          obtain ⟨R, r1, r2, r3, r4⟩ := pc_loop hE hN hK hp hsc hinj hs h0 hpl j _ _ _ _ _ q (stampI m e) (by omega) hst2 rfl hL
          have sp := vis_split (st := st) hp hs (show 100 < 100 + a by omega) ent2 (by rw [stV_I, show ((100 + a : Nat) : Int) = f q by omega]; exact lt)
          rw [stV_I, show ((100 + a : Nat) : Int) = e by omega, show 100 + a - 100 = a by omega] at sp
          have vi := vis_in (N := N) (st := m 6 + 1) hp par.1
          have zm : (Z + 2) * (visN m N K s (stampI m e) + (visN m N K a (m 6 + 1) + 1)) ≤ (Z + 2) * visN m N K s st := Int.mul_le_mul_of_nonneg_left (by omega) (by omega)
          rw [Int.mul_add, Int.mul_add] at zm
          refine ⟨P - 1 - q + (1 + (Ra + (1 + R))), by omega, by omega, fun u hu => by rw [r3 u (by omega), ra3 u hu], fun i M => ?_⟩
          rw [show P - 1 - q + (1 + (Ra + (1 + R))) + M = P - 1 - q + (Ra + (R + M + 1) + 1) by omega, scan]
          show (if (q : Int) < 0 then _ else if ¬ ownF c (f ((q : Int)).toNat) = s then _ else if 100 ≤ f ((q : Int)).toNat then pcL c f Z s0 i (Ra + (R + M + 1)) (f ((q : Int)).toNat - 100) ((Z : Int) - 1) k else _) = _
          rw [show ((q : Int)).toNat = q by omega, if_neg (by omega), if_neg (fun g => g ow), if_pos (by omega), show f q - 100 = (a : Int) by omega, ra4 i (R + M + 1)]
          by_cases w : (k : Int) ≤ i ∧ i < k1
          · rw [if_pos w, if_pos ⟨w.1, by omega⟩, r3 i.toNat (by omega)]
          · rw [if_neg w]
            show (if (-1 : Int) < 0 then (if (a : Int) = s0 then _ else pcL c f Z s0 i (R + M) (ownF c (100 + (a : Int))) (peL f (100 + (a : Int)) Z 0 - 1) k1) else _) = _
            rw [if_pos (by decide), if_neg (by omega), ← ea, ow, pe_at rfl (fun j hj g => hinj j q hj (by omega) g) Z 0 (Nat.zero_le _) (by omega), r4 i M]
            by_cases w2 : (k1 : Int) ≤ i ∧ i < k'
            · rw [if_pos w2, if_pos ⟨by omega, w2.2⟩]
            · rw [if_neg w2, if_neg (by omega)]
theorem pc_all (hE : ∀ a : Nat, entE m c f N K Z a) (hN : m 1 = (N : Int)) (hK : m 0 = (K : Int)) (hp : parI m K) (hsc : ∀ j, j < Z → 100 ≤ f j → 100 < f j) (hinj : ∀ j k, j < k → k < Z → ¬ f j = f k) {s0 : Nat} : ∀ (n s : Nat) (p : Nat → Int) (k : Nat) (p' : Nat → Int) (k' : Nat), s < K → s0 ≤ s → plR m n s p k p' k' → ∃ R : Nat, (R : Int) ≤ Z + (Z + 2) * visN m N K s (m 6 + 1) ∧ PCS c f Z s0 s Z k k' p p' R
  | 0, s, p, k, p', k', _, _, h => h.elim
  | n + 1, s, p, k, p', k', hs, h0, ⟨j, h⟩ => pc_loop hE hN hK hp hsc hinj hs h0 (fun a p k p' k' h1 h2 h3 => pc_all hE hN hK hp hsc hinj n a p k p' k' h2 (by omega) h3) j _ p k p' k' Z (m 6 + 1) (Nat.le_refl _) (fun j hj _ => ⟨fun _ => hj, fun _ => by have := (hE s).2.2.2.2 j hj; omega⟩) rfl h
/-- the plan -/
theorem plan_both (hE : ∀ a : Nat, entE m c f N K Z a) (hN : m 1 = (N : Int)) (hK : m 0 = (K : Int)) (hp : parI m K) (hsc : ∀ j, j < Z → 100 ≤ f j → 100 < f j) (hinj : ∀ j k, j < k → k < Z → ¬ f j = f k) (hZ : Z ≤ 150) (h60 : K ≤ 60) {s : Nat} (hs : s < K) {p p' : Nat → Int} {k' n : Nat} (h : plR m n s p 0 p' k') {i : Int} : pcL c f Z s i 1000000 s ((Z : Int) - 1) 0 = planV p' k' i := by
  obtain ⟨R, r1, r2, r3, r4⟩ := pc_all hE hN hK hp hsc hinj (s0 := s) n s p 0 p' k' hs (Nat.le_refl _) h
  have v : visN m N K s (m 6 + 1) ≤ 60 := by
    have := (cnt_r (fun x => bP (vis m N K s (m 6 + 1) x)) K).2
    unfold visN; omega
  have v0 : 0 ≤ visN m N K s (m 6 + 1) := (cnt_r _ _).1
  have zb : ((Z : Int) + 2) * visN m N K s (m 6 + 1) ≤ 152 * 60 := Int.mul_le_mul (by omega) v v0 (by decide)
  have e : (1000000 : Nat) = R + (1000000 - R - 1 + 1) := by omega
  have y := r4 i (1000000 - R - 1 + 1)
  rw [← e] at y
  have y0 : ((0 : Nat) : Int) = 0 := rfl
  rw [y0] at y
  rw [y]
  have fin : pcL c f Z s i (1000000 - R - 1 + 1) s (-1) k' = if i = -1 then (k' : Int) else -1 := by
    show (if (-1 : Int) < 0 then (if (s : Int) = s then (if i = -1 then (k' : Int) else -1) else _) else _) = _
    rw [if_pos (by decide), if_pos rfl]
  rw [fin]
  unfold planV
  by_cases w : (0 : Int) ≤ i ∧ i < k'
  · rw [if_pos w, if_pos ⟨by omega, by omega⟩, if_neg (by omega)]
  · rw [if_neg w]
    by_cases z : i = -1
    · rw [if_pos z, if_pos ⟨by omega, by omega⟩, if_pos (by omega)]
    · rw [if_neg z, if_neg (by omega)]
end PN

section mg_b7
end mg_b7
section mg_b8
/-! ===== the faults that were gathered, on both sides ===== -/
theorem po_at {b : Nat} {f : Nat → Int} {i k : Int} : ∀ (n t : Nat), cnt (gbB b f i) t ≤ k → k < cnt (gbB b f i) (t + n) → ∃ p : Nat, poL b f i k n t = p ∧ (t ≤ p ∧ p < t + n) ∧ gbB b f i p = true ∧ cnt (gbB b f i) p = k
  | 0, t, h1, h2 => by rw [Nat.add_zero] at h2; omega
  | n + 1, t, h1, h2 => by
    unfold poL
    by_cases z : gbB b f i t = true ∧ cnt (gbB b f i) t = k
    · rw [if_pos z]; exact ⟨t, rfl, ⟨Nat.le_refl _, by omega⟩, z.1, z.2⟩
    · rw [if_neg z]
      have h3 : cnt (gbB b f i) (t + 1) ≤ k := by
        rw [cnt_S]
        by_cases w : gbB b f i t = true
        · have : ¬ cnt (gbB b f i) t = k := fun g => z ⟨w, g⟩
          rw [if_pos w]; omega
        · rw [if_neg w]; omega
      obtain ⟨p, e, x, y⟩ := po_at n (t + 1) h3 (by rw [show t + 1 + n = t + (n + 1) by omega]; exact h2)
      exact ⟨p, e, ⟨by omega, by omega⟩, y⟩
theorem po_no {b : Nat} {f : Nat → Int} {i k : Int} : ∀ (n t : Nat), (∀ j, t ≤ j → j < t + n → ¬ cnt (gbB b f i) j = k) ∨ cnt (gbB b f i) (t + n) ≤ k → poL b f i k n t = -1
  | 0, t, _ => rfl
  | n + 1, t, h => by
    unfold poL
    have nz : ¬ (gbB b f i t = true ∧ cnt (gbB b f i) t = k) := fun g => by
      rcases h with h | h
      · exact h t (Nat.le_refl _) (by omega) g.2
      · have a := cnt_mono (p := gbB b f i) (show t + 1 ≤ t + (n + 1) by omega)
        rw [cnt_S, if_pos g.1] at a
        omega
    rw [if_neg nz]
    refine po_no n (t + 1) ?_
    rcases h with h | h
    · exact Or.inl (fun j a b => h j (by omega) (by omega))
    · exact Or.inr (by rw [show t + 1 + n = t + (n + 1) by omega]; exact h)
theorem cnt_two {p : Nat → Bool} {a b : Nat} (ha : p a = true) (hb : p b = true) (h : cnt p a = cnt p b) : a = b := by
  rcases Nat.lt_trichotomy a b with x | x | x
  · have y := cnt_mono (p := p) (show a + 1 ≤ b by omega)
    rw [cnt_S, if_pos ha] at y; omega
  · exact x
  · have y := cnt_mono (p := p) (show b + 1 ≤ a by omega)
    rw [cnt_S, if_pos hb] at y; omega
theorem fa_at {m : Nat → Int} {t : Int} {J : Nat} (hJ : faultB m t J = true) : ∀ (n j : Nat) (i : Int), j ≤ J → J < j + n → cnt (faultB m t) J = cnt (faultB m t) j + i → faJ m t n j i = J
  | 0, j, i, h1, h2, _ => by omega
  | n + 1, j, i, h1, h2, h3 => by
    have hJ' : m (2328 + 3 * J) = t := of_decide_eq_true hJ
    unfold faJ
    by_cases e : j = J
    · subst e
      rw [if_pos ⟨hJ', by omega⟩]
    · have mo := cnt_mono (p := faultB m t) (show j + 1 ≤ J by omega)
      rw [cnt_S] at mo
      by_cases w : m (2328 + 3 * j) = t
      · rw [if_pos (show faultB m t j = true from decide_eq_true w)] at mo
        rw [if_neg (fun g => by have := g.2; omega), if_pos w]
        refine fa_at hJ n (j + 1) (i - 1) (by omega) (by omega) ?_
        rw [cnt_S, if_pos (show faultB m t j = true from decide_eq_true w)]; omega
      · rw [if_neg (fun g => w g.1), if_neg w]
        refine fa_at hJ n (j + 1) (i - 0) (by omega) (by omega) ?_
        rw [cnt_S, if_neg (show ¬ faultB m t j = true from fun g => w (of_decide_eq_true g))]; omega
theorem nat0 {i : Nat} : (0 : Int) ≤ (i : Int) := by omega
theorem fnF_0 {c f g : Nat → Int} {F : Nat} {i k : Int} (h : ofF c i = 0) : fnF c f g F i k = atF 90 (F : Int) g (pwF c f F i k) ∧ fgF c f g F i k = if pwF c f F i k < 0 then -1 else atF 90 (F : Int) g (pwF c f F i k) := by
  unfold fnF fgF
  rw [if_neg (show ¬ (¬ ofF c i = 0 ∧ k = 0) from fun z => z.1 h), if_neg (show ¬ (¬ ofF c i = 0 ∧ k = 0) from fun z => z.1 h), if_pos h]
  exact ⟨rfl, rfl⟩
theorem fnF_1 {c f g : Nat → Int} {F : Nat} {i : Int} (h : ¬ ofF c i = 0) : fnF c f g F i 0 = ofF c i ∧ fgF c f g F i 0 = -1 := by
  unfold fnF fgF
  rw [if_pos (show ¬ ofF c i = 0 ∧ (0 : Int) = 0 from ⟨h, rfl⟩), if_pos (show ¬ ofF c i = 0 ∧ (0 : Int) = 0 from ⟨h, rfl⟩)]
  exact ⟨rfl, rfl⟩
theorem fnF_2 {c f g : Nat → Int} {F : Nat} {i k : Int} (h : ¬ ofF c i = 0) (hk : ¬ k = 0) : fnF c f g F i k = atF 90 (F : Int) g (pwF c f F i (k - 1)) ∧ fgF c f g F i k = if pwF c f F i (k - 1) < 0 then -1 else atF 90 (F : Int) g (pwF c f F i (k - 1)) := by
  unfold fnF fgF
  rw [if_neg (show ¬ (¬ ofF c i = 0 ∧ k = 0) from fun z => hk z.2), if_neg (show ¬ (¬ ofF c i = 0 ∧ k = 0) from fun z => hk z.2), if_neg h]
  exact ⟨rfl, rfl⟩
theorem fv_call {m : Nat → Int} {N : Nat} {k w : Int} : faultAtV m N (-1) k w = m (2688 + 2 * k + w).toNat := by
  unfold faultAtV; rw [if_neg (show ¬ (0 : Int) ≤ -1 by decide)]
theorem fv_0 {m : Nat → Int} {N i : Nat} {k w : Int} (o : m (1618 + 72 * i) = 0) : faultAtV m N (i : Int) k w = m (2329 + 3 * (faJ m i N 0 k : Int) + w).toNat := by
  have e : m (1618 + 72 * (i : Int)).toNat = 0 := by rw [show (1618 + 72 * (i : Int)).toNat = 1618 + 72 * i by omega]; exact o
  unfold faultAtV; rw [if_pos (nat0 (i := i)), if_pos e]
theorem fv_1 {m : Nat → Int} {N i : Nat} {w : Int} (o : ¬ m (1618 + 72 * i) = 0) : faultAtV m N (i : Int) 0 w = if w = 0 then m (1618 + 72 * i) else -1 := by
  have q : (1618 + 72 * (i : Int)).toNat = 1618 + 72 * i := by omega
  have e : ¬ m (1618 + 72 * (i : Int)).toNat = 0 := by rw [q]; exact o
  unfold faultAtV; rw [if_pos (nat0 (i := i)), if_neg e, if_pos (show (0 : Int) = 0 from rfl), q]
theorem fv_2 {m : Nat → Int} {N i : Nat} {k w : Int} (o : ¬ m (1618 + 72 * i) = 0) (hk : ¬ k = 0) : faultAtV m N (i : Int) k w = m (2329 + 3 * (faJ m i N 0 (k - 1) : Int) + w).toNat := by
  have e : ¬ m (1618 + 72 * (i : Int)).toNat = 0 := by rw [show (1618 + 72 * (i : Int)).toNat = 1618 + 72 * i by omega]; exact o
  unfold faultAtV; rw [if_pos (nat0 (i := i)), if_neg e, if_neg hk]
theorem mv_task {m : Nat → Int} {N i : Nat} : manyV m N (i : Int) = cnt (faultB m i) N + (if m (1618 + 72 * i) = 0 then 0 else 1) := by
  unfold manyV; rw [if_pos (nat0 (i := i)), show (1618 + 72 * (i : Int)).toNat = 1618 + 72 * i by omega]
theorem mv_call {m : Nat → Int} {N : Nat} : manyV m N (-1) = m 5 := by unfold manyV; rw [if_neg (show ¬ (0 : Int) ≤ -1 by decide)]
section FL
variable {m pool c : Nat → Int} {S : Nat → Option mO} {C : Nat → Nat → Int} {nm : Nat → Int64} {g : Nat → Option Nat}
/-- a task's own fault -/
theorem of_eq (hC : CR m pool S c C nm g) (hT : TKR m pool c S g 99) (hok : mOk m) {i : Nat} (hi : (i : Int) < m 3) : ofF c (i : Int) = m (1618 + 72 * i) := by
  obtain ⟨n0, -⟩ := hC
  have k3 := hok.2.2.2.2.1
  obtain ⟨⟨-, -, -, -, -, e, -⟩, -⟩ := hT.2 i hi
  unfold ofF
  rw [if_pos ⟨by omega, by rw [n0.2.2.1]; exact hi, by omega⟩, show ((i : Int)).toNat = i by omega]
  exact e
theorem of_call : ofF c (-1) = 0 := by
  unfold ofF
  rw [if_neg]
  intro w
  have := w.1
  omega
/-- how many -/
theorem fc_eq (hC : CR m pool S c C nm g) (hT : TKR m pool c S g 99) (hok : mOk m) {t : Int} (ht : t = -1 ∨ (0 ≤ t ∧ t ≤ m 3 - 1)) {N F : Nat} (hN : m 4 = (N : Int)) (hF : c 11 = (F : Int)) : fcF c (C 5) F t = manyV m N t := by
  rcases ht with rfl | ht
  · rw [fcF_call hC hF, mv_call]
  · obtain ⟨i, rfl⟩ : ∃ i : Nat, t = i := ⟨t.toNat, by omega⟩
    have oe := of_eq hC hT hok (i := i) (by omega)
    obtain ⟨-, -, -, -, -, -, ⟨F', f0⟩, -⟩ := id hC
    obtain rfl : F' = F := by have := f0.1.1; omega
    have b0 : b0F c (i : Int) = 0 := by unfold b0F; rw [if_neg (by omega)]
    rw [mv_task]
    unfold fcF
    rw [oe, b0, ← flt_cnt f0 i F' (Nat.le_refl _), ← f0.2.2.2.1, hN, show ((N : Int)).toNat = N by omega]
end FL
end mg_b8

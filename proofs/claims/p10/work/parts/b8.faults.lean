/-! ===== the faults that were gathered, on both sides ===== -/
theorem po_at {b : Nat} {f : Nat → Int} {i k : Int} : ∀ (n t : Nat), cnt (gbB b f i) t ≤ k → k < cnt (gbB b f i) (t + n) → ∃ p : Nat, poL b f i k n t = p ∧ (t ≤ p ∧ p < t + n) ∧ gbB b f i p = true ∧ cnt (gbB b f i) p = k
  | 0, t, h1, h2 => by rw [Nat.add_zero] at h2; omega
  | n + 1, t, h1, h2 => by
    unfold poL
    by_cases z : gbB b f i t = true ∧ cnt (gbB b f i) t = k
    · rw [if_pos z]; exact ⟨t, rfl, ⟨Nat.le_refl _, by omega⟩, z.1, z.2⟩
    · rw [if_neg z]
      have h3 : cnt (gbB b f i) (t + 1) ≤ k := by
        rw [cnt_S]
        by_cases w : gbB b f i t = true
        · have : ¬ cnt (gbB b f i) t = k := fun g => z ⟨w, g⟩
          rw [if_pos w]; omega
        · rw [if_neg w]; omega
      obtain ⟨p, e, x, y⟩ := po_at n (t + 1) h3 (by rw [show t + 1 + n = t + (n + 1) by omega]; exact h2)
      exact ⟨p, e, ⟨by omega, by omega⟩, y⟩
theorem po_no {b : Nat} {f : Nat → Int} {i k : Int} : ∀ (n t : Nat), (∀ j, t ≤ j → j < t + n → ¬ cnt (gbB b f i) j = k) ∨ cnt (gbB b f i) (t + n) ≤ k → poL b f i k n t = -1
  | 0, t, _ => rfl
  | n + 1, t, h => by
    unfold poL
    have nz : ¬ (gbB b f i t = true ∧ cnt (gbB b f i) t = k) := fun g => by
      rcases h with h | h
      · exact h t (Nat.le_refl _) (by omega) g.2
      · have a := cnt_mono (p := gbB b f i) (show t + 1 ≤ t + (n + 1) by omega)
        rw [cnt_S, if_pos g.1] at a
        omega
    rw [if_neg nz]
    refine po_no n (t + 1) ?_
    rcases h with h | h
    · exact Or.inl (fun j a b => h j (by omega) (by omega))
    · exact Or.inr (by rw [show t + 1 + n = t + (n + 1) by omega]; exact h)
theorem cnt_two {p : Nat → Bool} {a b : Nat} (ha : p a = true) (hb : p b = true) (h : cnt p a = cnt p b) : a = b := by
  rcases Nat.lt_trichotomy a b with x | x | x
  · have y := cnt_mono (p := p) (show a + 1 ≤ b by omega)
    rw [cnt_S, if_pos ha] at y; omega
  · exact x
  · have y := cnt_mono (p := p) (show b + 1 ≤ a by omega)
    rw [cnt_S, if_pos hb] at y; omega
theorem fa_at {m : Nat → Int} {t : Int} {J : Nat} (hJ : faultB m t J = true) : ∀ (n j : Nat) (i : Int), j ≤ J → J < j + n → cnt (faultB m t) J = cnt (faultB m t) j + i → faJ m t n j i = J
  | 0, j, i, h1, h2, _ => by omega
  | n + 1, j, i, h1, h2, h3 => by
    have hJ' : m (2328 + 3 * J) = t := of_decide_eq_true hJ
    unfold faJ
    by_cases e : j = J
    · subst e
      rw [if_pos ⟨hJ', by omega⟩]
    · have mo := cnt_mono (p := faultB m t) (show j + 1 ≤ J by omega)
      rw [cnt_S] at mo
      by_cases w : m (2328 + 3 * j) = t
      · rw [if_pos (show faultB m t j = true from decide_eq_true w)] at mo
        rw [if_neg (fun g => by have := g.2; omega), if_pos w]
        refine fa_at hJ n (j + 1) (i - 1) (by omega) (by omega) ?_
        rw [cnt_S, if_pos (show faultB m t j = true from decide_eq_true w)]; omega
      · rw [if_neg (fun g => w g.1), if_neg w]
        refine fa_at hJ n (j + 1) (i - 0) (by omega) (by omega) ?_
        rw [cnt_S, if_neg (show ¬ faultB m t j = true from fun g => w (of_decide_eq_true g))]; omega
theorem nat0 {i : Nat} : (0 : Int) ≤ (i : Int) := by omega
theorem fnF_0 {c f g : Nat → Int} {F : Nat} {i k : Int} (h : ofF c i = 0) : fnF c f g F i k = atF 90 (F : Int) g (pwF c f F i k) ∧ fgF c f g F i k = if pwF c f F i k < 0 then -1 else atF 90 (F : Int) g (pwF c f F i k) := by
  unfold fnF fgF
  rw [if_neg (show ¬ (¬ ofF c i = 0 ∧ k = 0) from fun z => z.1 h), if_neg (show ¬ (¬ ofF c i = 0 ∧ k = 0) from fun z => z.1 h), if_pos h]
  exact ⟨rfl, rfl⟩
theorem fnF_1 {c f g : Nat → Int} {F : Nat} {i : Int} (h : ¬ ofF c i = 0) : fnF c f g F i 0 = ofF c i ∧ fgF c f g F i 0 = -1 := by
  unfold fnF fgF
  rw [if_pos (show ¬ ofF c i = 0 ∧ (0 : Int) = 0 from ⟨h, rfl⟩), if_pos (show ¬ ofF c i = 0 ∧ (0 : Int) = 0 from ⟨h, rfl⟩)]
  exact ⟨rfl, rfl⟩
theorem fnF_2 {c f g : Nat → Int} {F : Nat} {i k : Int} (h : ¬ ofF c i = 0) (hk : ¬ k = 0) : fnF c f g F i k = atF 90 (F : Int) g (pwF c f F i (k - 1)) ∧ fgF c f g F i k = if pwF c f F i (k - 1) < 0 then -1 else atF 90 (F : Int) g (pwF c f F i (k - 1)) := by
  unfold fnF fgF
  rw [if_neg (show ¬ (¬ ofF c i = 0 ∧ k = 0) from fun z => hk z.2), if_neg (show ¬ (¬ ofF c i = 0 ∧ k = 0) from fun z => hk z.2), if_neg h]
  exact ⟨rfl, rfl⟩
theorem fv_call {m : Nat → Int} {N : Nat} {k w : Int} : faultAtV m N (-1) k w = m (2688 + 2 * k + w).toNat := by
  unfold faultAtV; rw [if_neg (show ¬ (0 : Int) ≤ -1 by decide)]
theorem fv_0 {m : Nat → Int} {N i : Nat} {k w : Int} (o : m (1618 + 72 * i) = 0) : faultAtV m N (i : Int) k w = m (2329 + 3 * (faJ m i N 0 k : Int) + w).toNat := by
  have e : m (1618 + 72 * (i : Int)).toNat = 0 := by rw [show (1618 + 72 * (i : Int)).toNat = 1618 + 72 * i by omega]; exact o
  unfold faultAtV; rw [if_pos (nat0 (i := i)), if_pos e]
theorem fv_1 {m : Nat → Int} {N i : Nat} {w : Int} (o : ¬ m (1618 + 72 * i) = 0) : faultAtV m N (i : Int) 0 w = if w = 0 then m (1618 + 72 * i) else -1 := by
  have q : (1618 + 72 * (i : Int)).toNat = 1618 + 72 * i := by omega
  have e : ¬ m (1618 + 72 * (i : Int)).toNat = 0 := by rw [q]; exact o
  unfold faultAtV; rw [if_pos (nat0 (i := i)), if_neg e, if_pos (show (0 : Int) = 0 from rfl), q]
theorem fv_2 {m : Nat → Int} {N i : Nat} {k w : Int} (o : ¬ m (1618 + 72 * i) = 0) (hk : ¬ k = 0) : faultAtV m N (i : Int) k w = m (2329 + 3 * (faJ m i N 0 (k - 1) : Int) + w).toNat := by
  have e : ¬ m (1618 + 72 * (i : Int)).toNat = 0 := by rw [show (1618 + 72 * (i : Int)).toNat = 1618 + 72 * i by omega]; exact o
  unfold faultAtV; rw [if_pos (nat0 (i := i)), if_neg e, if_neg hk]
theorem mv_task {m : Nat → Int} {N i : Nat} : manyV m N (i : Int) = cnt (faultB m i) N + (if m (1618 + 72 * i) = 0 then 0 else 1) := by
  unfold manyV; rw [if_pos (nat0 (i := i)), show (1618 + 72 * (i : Int)).toNat = 1618 + 72 * i by omega]
theorem mv_call {m : Nat → Int} {N : Nat} : manyV m N (-1) = m 5 := by unfold manyV; rw [if_neg (show ¬ (0 : Int) ≤ -1 by decide)]
section FL
variable {m pool c : Nat → Int} {S : Nat → Option mO} {C : Nat → Nat → Int} {nm : Nat → Int64} {g : Nat → Option Nat}
/-- a task's own fault -/
theorem of_eq (hC : CR m pool S c C nm g) (hT : TKR m pool c S g 99) (hok : mOk m) {i : Nat} (hi : (i : Int) < m 3) : ofF c (i : Int) = m (1618 + 72 * i) := by
  obtain ⟨n0, -⟩ := hC
  have k3 := hok.2.2.2.2.1
  obtain ⟨⟨-, -, -, -, -, e, -⟩, -⟩ := hT.2 i hi
  unfold ofF
  rw [if_pos ⟨by omega, by rw [n0.2.2.1]; exact hi, by omega⟩, show ((i : Int)).toNat = i by omega]
  exact e
theorem of_call : ofF c (-1) = 0 := by
  unfold ofF
  rw [if_neg]
  intro w
  have := w.1
  omega
/-- how many -/
theorem fc_eq (hC : CR m pool S c C nm g) (hT : TKR m pool c S g 99) (hok : mOk m) {t : Int} (ht : t = -1 ∨ (0 ≤ t ∧ t ≤ m 3 - 1)) {N F : Nat} (hN : m 4 = (N : Int)) (hF : c 11 = (F : Int)) : fcF c (C 5) F t = manyV m N t := by
  rcases ht with rfl | ht
  · rw [fcF_call hC hF, mv_call]
  · obtain ⟨i, rfl⟩ : ∃ i : Nat, t = i := ⟨t.toNat, by omega⟩
    have oe := of_eq hC hT hok (i := i) (by omega)
    obtain ⟨-, -, -, -, -, -, ⟨F', f0⟩, -⟩ := id hC
    obtain rfl : F' = F := by have := f0.1.1; omega
    have b0 : b0F c (i : Int) = 0 := by unfold b0F; rw [if_neg (by omega)]
    rw [mv_task]
    unfold fcF
    rw [oe, b0, ← flt_cnt f0 i F' (Nat.le_refl _), ← f0.2.2.2.1, hN, show ((N : Int)).toNat = N by omega]
/-- which: a place in the class's rows and one in the reference's -/
theorem pw_task (hC : CR m pool S c C nm g) {i : Nat} {k : Int} {N F : Nat} (hN : m 4 = (N : Int)) (hF : c 11 = (F : Int)) (hk : 0 ≤ k ∧ k < cnt (faultB m i) N) : ∃ p : Nat, pwF c (C 5) F (i : Int) k = p ∧ p < F ∧ C 3 p = m (2329 + 3 * faJ m i N 0 k) ∧ C 4 p = m (2330 + 3 * faJ m i N 0 k) := by
  obtain ⟨-, -, -, -, -, -, ⟨F', f0⟩, -⟩ := id hC
  obtain rfl : F' = F := by have := f0.1.1; omega
  have b0 : b0F c (i : Int) = 0 := by unfold b0F; rw [if_neg (by omega)]
  have tot := flt_cnt f0 i F' (Nat.le_refl _)
  rw [← f0.2.2.2.1, hN, show ((N : Int)).toNat = N by omega] at tot
  unfold pwF
  rw [b0, Nat.sub_zero]
  obtain ⟨p, e, ⟨-, hp⟩, gp, cp⟩ := po_at (b := 0) (f := C 5) (i := (i : Int)) (k := k) F' 0 (by rw [show cnt (gbB 0 (C 5) (i : Int)) 0 = 0 from rfl]; exact hk.1) (by rw [Nat.zero_add, ← tot]; exact hk.2)
  rw [Nat.zero_add] at hp
  have g5 : C 5 p = (i : Int) := (of_decide_eq_true gp).2
  obtain ⟨x1, x2, x3⟩ := f0.2.2.2.2.1 p hp (by omega)
  have ca := flt_cnt f0 i p (by omega)
  have r := cnt_r (faB (C 5)) p
  have r2 : cnt (faB (C 5)) p + 1 ≤ cnt (faB (C 5)) F' := by
    have y := cnt_mono (p := faB (C 5)) (show p + 1 ≤ F' by omega)
    rw [cnt_S, if_pos (show faB (C 5) p = true from decide_eq_true (by omega))] at y
    exact y
  have fj : faJ m (i : Int) N 0 k = (cnt (faB (C 5)) p).toNat := fa_at (decide_eq_true (by rw [x1]; exact g5)) N 0 k (Nat.zero_le _) (by have := f0.2.2.2.1; omega) (by rw [ca, cp]; show k = 0 + k; omega)
  refine ⟨p, e, hp, ?_, ?_⟩
  · rw [fj]; exact x2.symm
  · rw [fj]; exact x3.symm
theorem pw_call (hC : CR m pool S c C nm g) {k : Int} {F : Nat} (hF : c 11 = (F : Int)) (hk : 0 ≤ k ∧ k < m 5) : ∃ p : Nat, pwF c (C 5) F (-1) k = p ∧ p < F ∧ C 3 p = m (2688 + 2 * k.toNat) ∧ C 4 p = m (2689 + 2 * k.toNat) := by
  obtain ⟨-, -, -, -, -, -, ⟨F', f0⟩, -⟩ := id hC
  obtain rfl : F' = F := by have := f0.1.1; omega
  have b0 : b0F c (-1) = (c 4).toNat := by unfold b0F; rw [if_pos rfl]
  have c4 := f0.2.2.1
  unfold pwF
  rw [b0]
  obtain ⟨p, e, ⟨hp1, hp⟩, gp, cp⟩ := po_at (b := (c 4).toNat) (f := C 5) (i := -1) (k := k) (F' - (c 4).toNat) (c 4).toNat (by rw [gbB_0]; exact hk.1) (by rw [show (c 4).toNat + (F' - (c 4).toNat) = F' by omega, ← f0.2.2.2.2.2.1]; exact hk.2)
  have g5 : C 5 p = -1 := (of_decide_eq_true gp).2
  obtain ⟨x1, x2⟩ := f0.2.2.2.2.2.2 p (by omega) (by omega) g5
  rw [cp] at x1 x2
  exact ⟨p, e, by omega, x1.symm, x2.symm⟩
/-- none at that place -/
theorem pw_none (hC : CR m pool S c C nm g) (hT : TKR m pool c S g 99) (hok : mOk m) {t : Int} (ht : t = -1 ∨ (0 ≤ t ∧ t ≤ m 3 - 1)) {N F : Nat} (hN : m 4 = (N : Int)) (hF : c 11 = (F : Int)) (h0 : manyV m N t = 0) : ofF c t = 0 ∧ pwF c (C 5) F t 0 = -1 := by
  have fc := fc_eq hC hT hok ht hN hF
  rw [h0] at fc
  unfold fcF at fc
  have r := cnt_r (gbB (b0F c t) (C 5) t) F
  have z : ofF c t = 0 := by
    by_cases w : ofF c t = 0
    · exact w
    · rw [if_neg w] at fc; omega
  rw [if_pos z] at fc
  refine ⟨z, ?_⟩
  unfold pwF
  refine po_no _ _ (Or.inr ?_)
  obtain ⟨-, -, -, -, -, -, ⟨F', f0⟩, -⟩ := id hC
  have c4 := f0.2.2.1
  have e11 := f0.1.1
  have b : b0F c t ≤ F := by unfold b0F; split <;> omega
  rw [show b0F c t + (F - b0F c t) = F by omega]
  omega
/-- a fault's number, on both sides -/
theorem fn_eq (hC : CR m pool S c C nm g) (hT : TKR m pool c S g 99) (hok : mOk m) {t k : Int} (ht : t = -1 ∨ (0 ≤ t ∧ t ≤ m 3 - 1)) {N F : Nat} (hN : m 4 = (N : Int)) (hF : c 11 = (F : Int)) (hk : 0 ≤ k ∧ k < manyV m N t) : fnF c (C 5) (C 3) F t k = faultAtV m N t k 0 ∧ fgF c (C 5) (C 4) F t k = faultAtV m N t k 1 := by
  have k2 := hok.2.2.2.1
  obtain ⟨-, -, -, -, -, -, ⟨F', f0⟩, -⟩ := id hC
  obtain rfl : F' = F := by have := f0.1.1; omega
  have fb := f0.2.1
  have at' : ∀ {p : Nat} {f : Nat → Int}, p < F' → atF 90 (F' : Int) f (p : Int) = f p := fun {p f} hp => by
    unfold atF
    rw [if_pos ⟨by omega, by omega, by omega⟩]; rfl
  rcases ht with rfl | ht
  · rw [mv_call] at hk
    obtain ⟨p, e, hp, x1, x2⟩ := pw_call hC hF hk
    rw [(fnF_0 of_call).1, (fnF_0 of_call).2, fv_call, fv_call, e, at' hp, if_neg (show ¬ (p : Int) < 0 by omega), at' hp, x1, x2]
    refine ⟨?_, ?_⟩ <;> congr 1 <;> omega
  · obtain ⟨i, rfl⟩ : ∃ i : Nat, t = i := ⟨t.toNat, by omega⟩
    have oe := of_eq hC hT hok (i := i) (by omega)
    rw [mv_task] at hk
    by_cases o : m (1618 + 72 * i) = 0
    · rw [if_pos o] at hk
      obtain ⟨p, e, hp, x1, x2⟩ := pw_task hC (i := i) (k := k) hN hF ⟨hk.1, by omega⟩
      rw [(fnF_0 (oe.trans o)).1, (fnF_0 (oe.trans o)).2, fv_0 o, fv_0 o, e, at' hp, if_neg (show ¬ (p : Int) < 0 by omega), at' hp, x1, x2]
      refine ⟨?_, ?_⟩ <;> congr 1 <;> omega
    · rw [if_neg o] at hk
      have o' : ¬ ofF c (i : Int) = 0 := by rw [oe]; exact o
      by_cases z : k = 0
      · subst z
        rw [(fnF_1 o').1, (fnF_1 o').2, fv_1 o, fv_1 o, oe, if_pos (show (0 : Int) = 0 from rfl), if_neg (show ¬ (1 : Int) = 0 by decide)]
        exact ⟨rfl, rfl⟩
      · obtain ⟨p, e, hp, x1, x2⟩ := pw_task hC (i := i) (k := k - 1) hN hF ⟨by omega, by omega⟩
        rw [(fnF_2 o' z).1, (fnF_2 o' z).2, fv_2 o z, fv_2 o z, e, at' hp, if_neg (show ¬ (p : Int) < 0 by omega), at' hp, x1, x2]
        refine ⟨?_, ?_⟩ <;> congr 1 <;> omega
/-- where there is none -/
theorem fn_none (hC : CR m pool S c C nm g) (hT : TKR m pool c S g 99) (hok : mOk m) {t : Int} (ht : t = -1 ∨ (0 ≤ t ∧ t ≤ m 3 - 1)) {N F : Nat} (hN : m 4 = (N : Int)) (hF : c 11 = (F : Int)) (h0 : manyV m N t = 0) : fnF c (C 5) (C 3) F t 0 = 0 ∧ fgF c (C 5) (C 4) F t 0 = -1 := by
  obtain ⟨a, b⟩ := pw_none hC hT hok ht hN hF h0
  rw [(fnF_0 a).1, (fnF_0 a).2, b, if_pos (show (-1 : Int) < 0 by decide)]
  refine ⟨?_, rfl⟩
  unfold atF
  rw [if_neg (fun z => by have := z.1; omega)]
end FL

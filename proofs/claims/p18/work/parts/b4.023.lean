section mg_b9
section EV
variable {m pool c : Nat → Int} {S : Nat → Option mO} {C : Nat → Nat → Int} {nm : Nat → Int64} {g : Nat → Option Nat} {a : Int} {Z N K : Nat}
theorem en_step {f : Nat → Int} (h : entE m c f N K Z a) : ∀ (n p : Nat), p < Z → enB c f a p = true → (n : Int) ≤ cnt (enB c f a) p → ∃ p2, p2 < Z ∧ enB c f a p2 = true ∧ cnt (enB c f a) p2 = cnt (enB c f a) p - n ∧ enL m N K a n (f p) = f p2
  | 0, p, hp, hb, _ => ⟨p, hp, hb, by omega, rfl⟩
  | n + 1, p, hp, hb, hn => by
    obtain ⟨q, q1, q2, q3, q4⟩ := ea_step h (st := stampI m (f p)) (P := p) (by omega) (fun j hj _ => by
      constructor
      · intro x
        rcases Nat.lt_trichotomy j p with y | y | y
        · exact y
        · rw [y] at x; omega
        · have := h.2.1 p j y hj; omega
      · intro x; exact h.2.1 j p x hp) (by omega)
    obtain ⟨p2, w1, w2, w3, w4⟩ := en_step h n q (by omega) q2 (by omega)
    exact ⟨p2, w1, w2, by omega, by show enL m N K a n (eaV m N K a (stampI m (f p))) = f p2; rw [q4]; exact w4⟩
theorem entry_both (h : CR m pool S c C nm g) (hok : mOk m) (hs : ScI m) (hnc : NC m) (hst : ∀ t : Nat, (t : Int) < m 1 → 0 ≤ m (258 + 14 * t) ∧ m (258 + 14 * t) ≤ 2) (hZ : c 10 = (Z : Int)) (hN : m 1 = (N : Int)) (hK : m 0 = (K : Int)) (ha : 0 ≤ a ∧ a ≤ m 0 - 1) {k : Int} : eyL c (C 2) a k Z 0 = entryV m N K a k := by
  have he := ent_of (a := a) h hok hs hnc hst hZ hN hK
  have tot := en_eq h hok hs hnc hst ha.1 hZ hN hK
  unfold entryV
  by_cases w : 0 ≤ k ∧ k ≤ entsN m a N K - 1
  · rw [if_pos ⟨ha, w⟩]
    obtain ⟨q, q1, q2, q3, q4⟩ := ea_step he (st := m 6 + 1) (P := Z) (Nat.le_refl _) (fun j hj _ => ⟨fun _ => hj, fun _ => by have := he.2.2.2.2 j hj; omega⟩) (by omega)
    obtain ⟨p2, w1, w2, w3, w4⟩ := en_step he (entsN m a N K - 1 - k).toNat q q1 q2 (by omega)
    rw [q4, w4]
    exact ey_at w2 (by omega) Z 0 (Nat.zero_le _) (by omega)
  · rw [if_neg (fun z => w z.2)]
    refine ey_no Z 0 ?_
    rw [Nat.zero_add, tot]
    omega
end EV
end mg_b9
section mg_c0
/-! ===== letters and the order of names, on both sides ===== -/
theorem letA_n {g : Nat → Nat} (hg : ∀ j, g j < 32) {i : Nat} (hi : i < 7) : letA (lN (cdN g 7)) (i : Int) = (g i : Int) := by
  have b := cdN_b hg 7
  have b2 : cdN g 7 < 2 ^ 62 := Nat.lt_of_lt_of_le b (by decide)
  have k1 : 5 * (6 - i) < 64 := by omega
  have eD : (J (5 * (6 - (i : Int)))).toInt64 &&& 63 = lN (5 * (6 - i)) := by
    rw [J_nI _ (by omega), show (5 * (6 - (i : Int))).toNat = 5 * (6 - i) by omega]
    exact wb_c _ k1
  have hD : ((lN (5 * (6 - i))).toBitVec.smod 64).toNat = 5 * (6 - i) := by
    rw [wb_tb, wb_sm _ k1, BitVec.toNat_ofNat]
    exact Nat.mod_eq_of_lt (Nat.lt_of_lt_of_le k1 (by decide))
  unfold letA
  rw [eD, pf_shr hD b2, and31]
  have e : (lN (cdN g 7 / 2 ^ (5 * (6 - i)))).toInt32.toBitVec.toNat % 32 = (cdN g 7 / 2 ^ (5 * (6 - i))) % 32 := by
    have e1 : (lN (cdN g 7 / 2 ^ (5 * (6 - i)))).toInt32.toBitVec = (BitVec.ofNat 64 (cdN g 7 / 2 ^ (5 * (6 - i)))).setWidth 32 := by
      rw [← wb_tb, ← BitVec.signExtend_eq_setWidth_of_le _ (by decide)]; rfl
    rw [e1, BitVec.toNat_setWidth, BitVec.toNat_ofNat]
    omega
  rw [e, Nat.pow_mul, show 2 ^ 5 = 32 from rfl, cdN_d hg 7 i (6 - i) (by omega)]
theorem letV_n {sr : Nat → Int} {p e : Nat} (h : ∀ j, p ≤ j → j < e → isLt (sr j)) {i : Nat} (hi : i < 7) : letV (nmY sr p e) (i : Int) = if p + i < e then sr (p + i) else 0 := by
  unfold letV nmY nmN
  rw [if_pos ⟨by omega, by omega⟩, letA_n (nmG_b h) hi]
  unfold nmG
  by_cases z : p + i < e
  · have l := h (p + i) (by omega) z
    rw [if_pos z, if_pos z]
    unfold isLt at l
    rw [if_neg (by omega)]
    omega
  · rw [if_neg z, if_neg z]; rfl
theorem letV_o {y : Int64} {i : Int} (h : ¬ (0 ≤ i ∧ i < 7)) : letV y i = 0 := by unfold letV; rw [if_neg h]
theorem lnL_n {sr : Nat → Int} {p e : Nat} (h : ∀ j, p ≤ j → j < e → isLt (sr j)) (h7 : p ≤ e ∧ e ≤ p + 7) : ∀ n t : Nat, t + n = 7 → p + t ≤ e → lnL (nmY sr p e) n t = ((e - p : Nat) : Int)
  | 0, t, a, b => by show (t : Int) = _; omega
  | n + 1, t, a, b => by
    unfold lnL
    rw [letV_n h (by omega)]
    by_cases z : p + t < e
    · have l := h (p + t) (by omega) z
      unfold isLt at l
      rw [if_pos z, if_neg (by omega)]
      exact lnL_n h h7 n (t + 1) (by omega) (by omega)
    · rw [if_neg z, if_pos rfl]; omega
/-! the order -/
def lexP (x y : Nat → Int) (a b : Int) (M : Nat) : Prop := (∃ j, j < M ∧ (∀ i, i < j → x i = y i) ∧ x j < y j) ∨ ((∀ i, i < M → x i = y i) ∧ a < b)
theorem ag_lt {m rc : Nat → Int} {t fr : Nat} {a b : Int} : ∀ n k, (∀ i, i < k → m (265 + 14 * t + i) = rc (fr + i)) → (agL m rc t fr a b n k < 0 ↔ lexP (fun i => m (265 + 14 * t + i)) (fun i => rc (fr + i)) a b (k + n))
  | 0, k, h => by
    unfold agL lexP
    constructor
    · intro g; exact Or.inr ⟨fun i hi => h i (by omega), by omega⟩
    · rintro (⟨j, j1, j2, j3⟩ | ⟨-, g⟩)
      · have := h j (by omega)
        have j3' : m (265 + 14 * t + j) < rc (fr + j) := j3
        omega
      · omega
  | n + 1, k, h => by
    unfold agL
    by_cases z : m (265 + 14 * t + k) - rc (fr + k) = 0
    · rw [if_pos z, ag_lt n (k + 1) (fun i hi => by
        by_cases w : i = k
        · subst w; omega
        · exact h i (by omega)), show k + 1 + n = k + (n + 1) by omega]
    · rw [if_neg z]
      unfold lexP
      constructor
      · intro g; exact Or.inl ⟨k, by omega, fun i hi => h i hi, by show m (265 + 14 * t + k) < rc (fr + k); omega⟩
      · rintro (⟨j, j1, j2, j3⟩ | ⟨g, -⟩)
        · have j3' : m (265 + 14 * t + j) < rc (fr + j) := j3
          rcases Nat.lt_trichotomy j k with w | w | w
          · have := h j w; omega
          · subst w; omega
          · have q : m (265 + 14 * t + k) = rc (fr + k) := j2 k w
            omega
        · have q : m (265 + 14 * t + k) = rc (fr + k) := g k (by omega)
          omega
end mg_c0

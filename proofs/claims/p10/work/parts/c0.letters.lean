/-! ===== letters and the order of names, on both sides ===== -/
theorem letA_n {g : Nat → Nat} (hg : ∀ j, g j < 32) {i : Nat} (hi : i < 7) : letA (lN (cdN g 7)) (i : Int) = (g i : Int) := by
  have b := cdN_b hg 7
  have b2 : cdN g 7 < 2 ^ 62 := Nat.lt_of_lt_of_le b (by decide)
  have k1 : 5 * (6 - i) < 64 := by omega
  have eD : (J (5 * (6 - (i : Int)))).toInt64 &&& 63 = lN (5 * (6 - i)) := by
    rw [J_nI _ (by omega), show (5 * (6 - (i : Int))).toNat = 5 * (6 - i) by omega]
    exact wb_c _ k1
  have hD : ((lN (5 * (6 - i))).toBitVec.smod 64).toNat = 5 * (6 - i) := by
    rw [wb_tb, wb_sm _ k1, BitVec.toNat_ofNat]
    exact Nat.mod_eq_of_lt (Nat.lt_of_lt_of_le k1 (by decide))
  unfold letA
  rw [eD, pf_shr hD b2, and31]
  have e : (lN (cdN g 7 / 2 ^ (5 * (6 - i)))).toInt32.toBitVec.toNat % 32 = (cdN g 7 / 2 ^ (5 * (6 - i))) % 32 := by
    have e1 : (lN (cdN g 7 / 2 ^ (5 * (6 - i)))).toInt32.toBitVec = (BitVec.ofNat 64 (cdN g 7 / 2 ^ (5 * (6 - i)))).setWidth 32 := by
      rw [← wb_tb, ← BitVec.signExtend_eq_setWidth_of_le _ (by decide)]; rfl
    rw [e1, BitVec.toNat_setWidth, BitVec.toNat_ofNat]
    omega
  rw [e, Nat.pow_mul, show 2 ^ 5 = 32 from rfl, cdN_d hg 7 i (6 - i) (by omega)]
theorem letV_n {sr : Nat → Int} {p e : Nat} (h : ∀ j, p ≤ j → j < e → isLt (sr j)) {i : Nat} (hi : i < 7) : letV (nmY sr p e) (i : Int) = if p + i < e then sr (p + i) else 0 := by
  unfold letV nmY nmN
  rw [if_pos ⟨by omega, by omega⟩, letA_n (nmG_b h) hi]
  unfold nmG
  by_cases z : p + i < e
  · have l := h (p + i) (by omega) z
    rw [if_pos z, if_pos z]
    unfold isLt at l
    rw [if_neg (by omega)]
    omega
  · rw [if_neg z, if_neg z]; rfl
theorem letV_o {y : Int64} {i : Int} (h : ¬ (0 ≤ i ∧ i < 7)) : letV y i = 0 := by unfold letV; rw [if_neg h]
theorem lnL_n {sr : Nat → Int} {p e : Nat} (h : ∀ j, p ≤ j → j < e → isLt (sr j)) (h7 : p ≤ e ∧ e ≤ p + 7) : ∀ n t : Nat, t + n = 7 → p + t ≤ e → lnL (nmY sr p e) n t = ((e - p : Nat) : Int)
  | 0, t, a, b => by show (t : Int) = _; omega
  | n + 1, t, a, b => by
    unfold lnL
    rw [letV_n h (by omega)]
    by_cases z : p + t < e
    · have l := h (p + t) (by omega) z
      unfold isLt at l
      rw [if_pos z, if_neg (by omega)]
      exact lnL_n h h7 n (t + 1) (by omega) (by omega)
    · rw [if_neg z, if_pos rfl]; omega
/-! the order -/
def lexP (x y : Nat → Int) (a b : Int) (M : Nat) : Prop := (∃ j, j < M ∧ (∀ i, i < j → x i = y i) ∧ x j < y j) ∨ ((∀ i, i < M → x i = y i) ∧ a < b)
theorem ag_lt {m rc : Nat → Int} {t fr : Nat} {a b : Int} : ∀ n k, (∀ i, i < k → m (265 + 14 * t + i) = rc (fr + i)) → (agL m rc t fr a b n k < 0 ↔ lexP (fun i => m (265 + 14 * t + i)) (fun i => rc (fr + i)) a b (k + n))
  | 0, k, h => by
    unfold agL lexP
    constructor
    · intro g; exact Or.inr ⟨fun i hi => h i (by omega), by omega⟩
    · rintro (⟨j, j1, j2, j3⟩ | ⟨-, g⟩)
      · have := h j (by omega)
        have j3' : m (265 + 14 * t + j) < rc (fr + j) := j3
        omega
      · omega
  | n + 1, k, h => by
    unfold agL
    by_cases z : m (265 + 14 * t + k) - rc (fr + k) = 0
    · rw [if_pos z, ag_lt n (k + 1) (fun i hi => by
        by_cases w : i = k
        · subst w; omega
        · exact h i (by omega)), show k + 1 + n = k + (n + 1) by omega]
    · rw [if_neg z]
      unfold lexP
      constructor
      · intro g; exact Or.inl ⟨k, by omega, fun i hi => h i hi, by show m (265 + 14 * t + k) < rc (fr + k); omega⟩
      · rintro (⟨j, j1, j2, j3⟩ | ⟨g, -⟩)
        · have j3' : m (265 + 14 * t + j) < rc (fr + j) := j3
          rcases Nat.lt_trichotomy j k with w | w | w
          · have := h j w; omega
          · subst w; omega
          · have q : m (265 + 14 * t + k) = rc (fr + k) := j2 k w
            omega
        · have q : m (265 + 14 * t + k) = rc (fr + k) := g k (by omega)
          omega
/-- words that end, and their codes -/
theorem lex_cd {x y : Nat → Int} {a b : Nat} (ha : a ≤ 7) (hb : b ≤ 7) (hx : ∀ j, j < a → isLt (x j)) (hy : ∀ j, j < b → isLt (y j)) {gx gy : Nat → Nat} (ex : ∀ j, j < 7 → gx j = if j < a then (x j - 96).toNat else 0) (ey : ∀ j, j < 7 → gy j = if j < b then (y j - 96).toNat else 0) : lexP x y a b (agN a b) ↔ ∃ k, k < 7 ∧ (∀ j, j < k → gx j = gy j) ∧ gx k < gy k := by
  have hM : agN a b = if a ≤ b then a else b := by
    unfold agN
    by_cases z : a ≤ b
    · rw [if_pos (by omega), if_pos z]; omega
    · rw [if_neg (by omega), if_neg z]; omega
  have same : ∀ j, j < a → j < b → (gx j = gy j ↔ x j = y j) := fun j h1 h2 => by
    have lx := hx j h1
    have ly := hy j h2
    unfold isLt at lx ly
    rw [ex j (by omega), ey j (by omega), if_pos h1, if_pos h2]; omega
  rw [hM]
  unfold lexP
  constructor
  · rintro (⟨j, j1, j2, j3⟩ | ⟨g1, g2⟩)
    · have ja : j < a ∧ j < b := by split at j1 <;> omega
      have lx := hx j ja.1
      have ly := hy j ja.2
      unfold isLt at lx ly
      refine ⟨j, by omega, fun i hi => (same i (by omega) (by omega)).mpr (j2 i hi), ?_⟩
      rw [ex j (by omega), ey j (by omega), if_pos ja.1, if_pos ja.2]; omega
    · have ab : a < b := by omega
      rw [if_pos (by omega)] at g1
      have ly := hy a ab
      unfold isLt at ly
      refine ⟨a, by omega, fun i hi => (same i hi (by omega)).mpr (g1 i hi), ?_⟩
      rw [ex a (by omega), ey a (by omega), if_neg (by omega), if_pos ab]; omega
  · rintro ⟨k, k1, k2, k3⟩
    have kb : k < b := by
      by_cases z : k < b
      · exact z
      · rw [ey k k1, if_neg z] at k3; omega
    by_cases ka : k < a
    · have lx := hx k ka
      have ly := hy k kb
      unfold isLt at lx ly
      rw [ex k k1, ey k k1, if_pos ka, if_pos kb] at k3
      exact Or.inl ⟨k, by split <;> omega, fun i hi => (same i (by omega) (by omega)).mp (k2 i hi), by omega⟩
    · have ea : k = a := by
        by_cases z : k = a
        · exact z
        · exfalso
          have q := k2 a (by omega)
          have ly := hy a (by omega)
          unfold isLt at ly
          rw [ex a (by omega), ey a (by omega), if_neg (by omega), if_pos (by omega)] at q
          omega
      subst ea
      rw [if_pos (by omega)]
      exact Or.inr ⟨fun i hi => (same i hi (by omega)).mp (k2 i hi), by omega⟩
theorem nmR_lt {m : Nat → Int} {t o : Nat} (ht : nmOk m t) (ho : nmOk m o) : (nmR m t).toInt < (nmR m o).toInt ↔ agT m t o < 0 := by
  obtain ⟨ht1, ht2⟩ := ht
  obtain ⟨ho1, ho2⟩ := ho
  obtain ⟨a, ea⟩ : ∃ a : Nat, m (261 + 14 * t) = a := ⟨(m (261 + 14 * t)).toNat, by omega⟩
  obtain ⟨b, eb⟩ : ∃ b : Nat, m (261 + 14 * o) = b := ⟨(m (261 + 14 * o)).toNat, by omega⟩
  have lt : ∀ j, 265 + 14 * t ≤ j → j < 265 + 14 * t + a → isLt (m j) := fun j h1 h2 => by
    have := ht2 (j - (265 + 14 * t)) (by omega)
    rw [show 265 + 14 * t + (j - (265 + 14 * t)) = j by omega] at this; exact this
  have lo : ∀ j, 265 + 14 * o ≤ j → j < 265 + 14 * o + b → isLt (m j) := fun j h1 h2 => by
    have := ho2 (j - (265 + 14 * o)) (by omega)
    rw [show 265 + 14 * o + (j - (265 + 14 * o)) = j by omega] at this; exact this
  have bt := nmN_b lt
  have bo := nmN_b lo
  unfold nmR nmY
  rw [ea, eb, show ((a : Int)).toNat = a by omega, show ((b : Int)).toNat = b by omega, pf_lI (Nat.lt_of_lt_of_le bt (by decide)), pf_lI (Nat.lt_of_lt_of_le bo (by decide))]
  unfold agT agV
  rw [ea, eb, ag_lt _ 0 (fun i hi => absurd hi (Nat.not_lt_zero _)), Nat.zero_add, lex_cd (x := fun i => m (265 + 14 * t + i)) (y := fun i => m (265 + 14 * o + i)) (by omega) (by omega) (fun j hj => lt _ (by omega) (by omega)) (fun j hj => lo _ (by omega) (by omega)) (gx := nmG m (265 + 14 * t) (265 + 14 * t + a)) (gy := nmG m (265 + 14 * o) (265 + 14 * o + b)) (fun j hj => by
    unfold nmG
    by_cases z : j < a
    · rw [if_pos (by omega), if_pos z]
    · rw [if_neg (by omega), if_neg z]) (fun j hj => by
    unfold nmG
    by_cases z : j < b
    · rw [if_pos (by omega), if_pos z]
    · rw [if_neg (by omega), if_neg z]), ← cdN_l (nmG_b lt) (nmG_b lo) 7]
  unfold nmN
  omega

/-! ===== what happens on both sides keeps the relation ===== -/
section ORD
/-- the nodes of P stand in a row by their stamps -/
def ordE (P : Int → Prop) (st : Int → Int) (top : Int) (f : Nat → Int) (Z : Nat) : Prop := (∀ j, j < Z → P (f j)) ∧ (∀ j k, j < k → k < Z → st (f j) < st (f k)) ∧ (∀ e, P e → ∃ j, j < Z ∧ f j = e) ∧ (∀ e, P e → st e ≤ top)
variable {P P' : Int → Prop} {st st' : Int → Int} {top top' : Int} {f : Nat → Int} {Z : Nat}
theorem ordE_i (h : ordE P st top f Z) {j k : Nat} (hj : j < Z) (hk : k < Z) (e : f j = f k) : j = k := by
  by_cases a : j < k
  · have := h.2.1 j k a hk; rw [e] at this; omega
  · by_cases b : k < j
    · have := h.2.1 k j b hj; rw [e] at this; omega
    · omega
theorem ordE_c (h : ordE P st top f Z) (hP : ∀ e, P' e ↔ P e) (hs : ∀ e, P e → st' e = st e) (ht : top ≤ top') : ordE P' st' top' f Z := by
  obtain ⟨a, b, c, d⟩ := h
  refine ⟨fun j hj => (hP _).mpr (a j hj), fun j k x y => ?_, fun e he => c e ((hP e).mp he), fun e he => ?_⟩
  · rw [hs _ (a j (by omega)), hs _ (a k y)]; exact b j k x y
  · have := (hP e).mp he
    rw [hs e this]; have := d e this; omega
theorem ordE_a (h : ordE P st top f Z) {e1 : Int} (hs : ∀ e, P e → st' e = st e) (h1 : top < st' e1) (h2 : st' e1 ≤ top') : ordE (fun e => P e ∨ e = e1) st' top' (updI f Z e1) (Z + 1) := by
  obtain ⟨a, b, c, d⟩ := h
  have lo : ∀ j, j < Z → updI f Z e1 j = f j := fun j hj => updI_n (by omega)
  refine ⟨fun j hj => ?_, fun j k x y => ?_, fun e he => ?_, fun e he => ?_⟩
  · by_cases q : j = Z
    · subst q; rw [updI_s]; exact Or.inr rfl
    · rw [lo j (by omega)]; exact Or.inl (a j (by omega))
  · rw [lo j (by omega)]
    by_cases q : k = Z
    · subst q
      rw [updI_s, hs _ (a j (by omega))]
      have := d _ (a j (by omega)); omega
    · rw [lo k (by omega), hs _ (a j (by omega)), hs _ (a k (by omega))]; exact b j k x (by omega)
  · rcases he with he | rfl
    · obtain ⟨j, j1, j2⟩ := c e he
      exact ⟨j, by omega, by rw [lo j j1]; exact j2⟩
    · exact ⟨Z, by omega, updI_s⟩
  · rcases he with he | rfl
    · rw [hs e he]; have := d e he; omega
    · exact h2
theorem dr_lo {v : Int} : ∀ n, (∀ j, j < n → ¬ f j = v) → cnt (notB v f) n = n ∧ ∀ q, drA v f n q = f q
  | 0, _ => ⟨rfl, fun _ => rfl⟩
  | n + 1, h => by
    obtain ⟨a, b⟩ := dr_lo n (fun j hj => h j (by omega))
    have hn := h n (by omega)
    have e : notB v f n = true := decide_eq_true hn
    constructor
    · rw [cnt_S, e, a, if_pos rfl]; omega
    · intro q
      show (if f n = v then drA v f n else updI (drA v f n) (cnt (notB v f) n).toNat (f n)) q = f q
      rw [if_neg hn, a]
      by_cases c : q = n
      · subst c; rw [Int.toNat_natCast, updI_s]
      · rw [Int.toNat_natCast, updI_n c]; exact b q
theorem dr_hi {v : Int} {j0 : Nat} (hj : f j0 = v) (hu : ∀ j, j < Z → f j = v → j = j0) : ∀ n, j0 < n → n ≤ Z → cnt (notB v f) n + 1 = n ∧ ∀ q, drA v f n q = if q < j0 then f q else if q + 1 < n then f (q + 1) else f q
  | 0, h, _ => by omega
  | n + 1, h, hz => by
    by_cases c : j0 = n
    · subst c
      obtain ⟨a, b⟩ := dr_lo (v := v) (f := f) j0 (fun j hj2 g => by have := hu j (by omega) g; omega)
      have e : notB v f j0 = false := decide_eq_false (fun g => g hj)
      constructor
      · rw [cnt_S, e, a, if_neg (by decide)]; omega
      · intro q
        show (if f j0 = v then drA v f j0 else updI (drA v f j0) (cnt (notB v f) j0).toNat (f j0)) q = _
        rw [if_pos hj, b]
        by_cases g : q < j0
        · rw [if_pos g]
        · rw [if_neg g, if_neg (by omega)]
    · obtain ⟨a, b⟩ := dr_hi hj hu n (by omega) (by omega)
      have hn : ¬ f n = v := fun g => c (hu n (by omega) g).symm
      have e : notB v f n = true := decide_eq_true hn
      have e2 : (cnt (notB v f) n).toNat = n - 1 := by omega
      constructor
      · rw [cnt_S, e, if_pos rfl]; omega
      · intro q
        show (if f n = v then drA v f n else updI (drA v f n) (cnt (notB v f) n).toNat (f n)) q = _
        rw [if_neg hn, e2]
        by_cases g : q = n - 1
        · subst g
          rw [updI_s, if_neg (by omega), if_pos (by omega)]
          congr 1; omega
        · rw [updI_n g, b]
          by_cases g2 : q < j0
          · rw [if_pos g2, if_pos g2]
          · rw [if_neg g2, if_neg g2]
            by_cases g3 : q + 1 < n
            · rw [if_pos g3, if_pos (by omega)]
            · rw [if_neg g3, if_neg (by omega)]
theorem ordE_d (h : ordE P st top f Z) {e0 : Int} (h0 : P e0) : cnt (notB e0 f) Z + 1 = Z ∧ 1 ≤ Z ∧ ordE (fun e => P e ∧ ¬ e = e0) st top (drA e0 f Z) (Z - 1) := by
  obtain ⟨j0, j1, j2⟩ := h.2.2.1 e0 h0
  obtain ⟨x, y⟩ := dr_hi (v := e0) (j0 := j0) j2 (fun j hj g => ordE_i h hj j1 (g.trans j2.symm)) Z j1 (Nat.le_refl _)
  have inj := fun {j k : Nat} hj hk e => ordE_i h (j := j) (k := k) hj hk e
  obtain ⟨a, b, c, d⟩ := h
  have v : ∀ q, q < Z - 1 → drA e0 f Z q = f (if q < j0 then q else q + 1) := fun q hq => by
    rw [y q]
    by_cases g : q < j0
    · rw [if_pos g, if_pos g]
    · rw [if_neg g, if_neg g, if_pos (by omega)]
  refine ⟨x, by omega, fun j hj => ?_, fun j k p q => ?_, fun e he => ?_, fun e he => d e he.1⟩
  · rw [v j hj]
    have s : (if j < j0 then j else j + 1) < Z ∧ ¬ (if j < j0 then j else j + 1) = j0 := by split <;> omega
    exact ⟨a _ s.1, fun g => s.2 (inj s.1 j1 (g.trans j2.symm))⟩
  · rw [v j (by omega), v k q]
    refine b _ _ ?_ ?_
    · by_cases g : k < j0
      · rw [if_pos g, if_pos (by omega)]; exact p
      · rw [if_neg g]; split <;> omega
    · split <;> omega
  · obtain ⟨j, k1, k2⟩ := c e he.1
    have ne : ¬ j = j0 := fun g => he.2 (by rw [← k2, g]; exact j2)
    by_cases g : j < j0
    · exact ⟨j, by omega, by rw [v j (by omega), if_pos g]; exact k2⟩
    · exact ⟨j - 1, by omega, by rw [v _ (by omega), if_neg (by omega), show j - 1 + 1 = j by omega]; exact k2⟩
end ORD
theorem crE_o {m c f : Nat → Int} {Z : Nat} : crE m c f Z ↔ c 10 = Z ∧ (Z : Int) + 1 ≤ m 1 + m 0 ∧ ordE (nodP m) (stampI m) (m 6) f Z := Iff.rfl
section CMP
variable {m m' c c' : Nat → Int} {C C' : Nat → Nat → Int} {nm nm' : Nat → Int64} {g g' : Nat → Option Nat} {S : Nat → Option mO} {pool : Nat → Int}
theorem crT_c (h : crT m c nm) (k1 : m 1 ≤ 90) (h1 : m' 1 = m 1) (hm : ∀ q, 258 ≤ q → q < 1518 → m' q = m q) (hc : ∀ q, 32 ≤ q → q < 302 → c' q = c q) (hn : nm' = nm) : crT m' c' nm' := fun t ht => by
  subst hn
  rw [h1] at ht
  obtain ⟨t1, t2, t3, t4, t5⟩ := h t ht
  rw [hc _ (by omega) (by omega), hc _ (by omega) (by omega), hc _ (by omega) (by omega), hm _ (by omega) (by omega), hm _ (by omega) (by omega), hm _ (by omega) (by omega)]
  exact ⟨t1, t2, t3, t4.trans (nmR_c (hm _ (by omega) (by omega)) t5.1.2 (fun j hj => hm _ (by omega) (by omega))).symm, nmOk_c (hm _ (by omega) (by omega)) (fun j hj => hm _ (by omega) (by omega)) t5⟩
theorem crS_c (h : crS m c) (k0 : m 0 ≤ 60) (h0 : m' 0 = m 0) (hm : ∀ q, 18 ≤ q → q < 258 → m' q = m q) (hc : ∀ q, 304 ≤ q → q < 484 → c' q = c q) : crS m' c' := fun a ha => by
  rw [h0] at ha
  rw [hc _ (by omega) (by omega), hc _ (by omega) (by omega), hc _ (by omega) (by omega), hm _ (by omega) (by omega), hm _ (by omega) (by omega), hm _ (by omega) (by omega)]
  exact h a ha
theorem crK_c (h : crK m c) (h3 : m' 3 = m 3) (hm : ∀ q, 1608 ≤ q → q < 2328 → m' q = m q) (hc : ∀ q, 488 ≤ q → c' q = c q) (k3 : m 3 ≤ 10) : crK m' c' := fun q hq => by
  rw [h3] at hq
  rw [hc _ (by omega), hc _ (by omega), hm _ (by omega) (by omega), hm _ (by omega) (by omega)]
  exact h q hq
theorem crL_c (h : crL m C) (k2 : m 2 ≤ 90) (h2 : m' 2 = m 2) (hm : ∀ q, 10 ≤ q → q < 18 → m' q = m q) (hm2 : ∀ q, 1518 ≤ q → q < 1608 → m' q = m q) (h0 : C' 0 = C 0) (h1 : C' 1 = C 1) : crL m' C' := by
  refine ⟨fun k hk => by rw [h0, hm _ (by omega) (by omega)]; exact h.1 k hk, fun k hk => ?_⟩
  rw [h2] at hk
  rw [h1, hm2 _ (by omega) (by omega)]; exact h.2 k hk
theorem crG_c (h : crG m pool S g) (k1 : m 1 ≤ 90) (h1 : m' 1 = m 1) (hm : ∀ t : Nat, (t : Int) < m 1 → m' (262 + 14 * t) = m (262 + 14 * t) ∧ m' (263 + 14 * t) = m (263 + 14 * t)) (hg : ∀ t, t < 90 → g' (2 * t) = g (2 * t)) : crG m' pool S g' := fun t ht => by
  rw [h1] at ht
  rw [(hm t ht).1, (hm t ht).2, hg t (by omega)]
  exact h t ht
theorem updC_r {C : Nat → Nat → Int} (h : ∀ k q, InR (C k q)) {k : Nat} {f : Nat → Int} (hf : ∀ q, InR (f q)) : ∀ j q, InR (updC C k f j q) := fun j q => by
  by_cases e : j = k
  · subst e; rw [updC_s]; exact hf q
  · rw [updC_n e]; exact h j q
theorem drA_r {v : Int} {f : Nat → Int} (hf : ∀ q, InR (f q)) : ∀ n q, InR (drA v f n q)
  | 0, q => hf q
  | n + 1, q => by
    show InR ((if f n = v then drA v f n else updI (drA v f n) (cnt (notB v f) n).toNat (f n)) q)
    split
    · exact drA_r hf n q
    · exact updI_r (drA_r hf n) (hf n) q
end CMP
section CHG
variable {x : Int} {m pool c : Nat → Int} {S : Nat → Option mO} {C : Nat → Nat → Int} {nm : Nat → Int64} {g : Nat → Option Nat}
/-- a closing begins -/
theorem CR_cng (h : CRx x m pool S c C nm g) (hok : mOk m) (hx : x ≤ 0) {t : Nat} (ht : (t : Int) < m 1) (h0 : m (258 + 14 * t) = 0) : CRx x (updI m (258 + 14 * t) 1) pool S (updI c (32 + 3 * t) 2) C nm (btG g t) := by
  obtain ⟨n, T, A, K, L, ⟨Z, e⟩, ⟨F, f⟩, G, R⟩ := h
  have k0 := hok.2.1
  have k1 := hok.2.2.1
  have k2 := hok.2.2.2.1
  have k3 := hok.2.2.2.2.1
  have um : ∀ q, ¬ q = 258 + 14 * t → updI m (258 + 14 * t) 1 q = m q := fun q a => updI_n a
  have uc : ∀ q, ¬ q = 32 + 3 * t → updI c (32 + 3 * t) 2 q = c q := fun q a => updI_n a
  refine ⟨?_, ?_, ?_, ?_, ?_, ⟨Z, ?_⟩, ⟨F, ?_⟩, ?_, updI_r R.1 (by decide), R.2⟩
  · unfold crN
    rw [um 0 (by omega), um 1 (by omega), um 2 (by omega), um 3 (by omega), uc 0 (by omega), uc 1 (by omega), uc 2 (by omega), uc 8 (by omega), uc 9 (by omega)]
    exact n
  · intro u hu
    rw [um 1 (by omega)] at hu
    obtain ⟨t1, t2, t3, t4, t5⟩ := T u hu
    rw [uc (33 + 3 * u) (by omega), uc (34 + 3 * u) (by omega), um (259 + 14 * u) (by omega), um (264 + 14 * u) (by omega)]
    refine ⟨?_, t2, t3, t4.trans (nmR_c (um _ (by omega)) t5.1.2 (fun j hj => um _ (by omega))).symm, nmOk_c (um _ (by omega)) (fun j hj => um _ (by omega)) t5⟩
    by_cases w : u = t
    · subst w; rw [updI_s, updI_s]; decide
    · rw [uc _ (by omega), um _ (by omega)]; exact t1
  · exact crS_c A k0.2 (um 0 (by omega)) (fun q a b => um q (by omega)) (fun q a b => uc q (by omega))
  · exact crK_c K (um 3 (by omega)) (fun q a b => um q (by omega)) (fun q a => uc q (by omega)) k3.2
  · exact crL_c L k2.2 (um 2 (by omega)) (fun q a b => um q (by omega)) (fun q a b => um q (by omega)) rfl rfl
  · refine crE_c e k1.2 (uc 10 (by omega)) (um 0 (by omega)) (um 1 (by omega)) (um 6 (by omega)) (fun u hu => ?_) (fun a ha hb => by rw [um _ (by omega), um _ (by omega)]; exact ⟨Iff.rfl, rfl⟩)
    rw [um (260 + 14 * u) (by omega)]
    refine ⟨?_, rfl⟩
    by_cases w : u = t
    · subst w; rw [updI_s, h0]; decide
    · rw [um _ (by omega)]
  · have := f.2.1
    exact crF_c f (by omega) (uc 11 (by omega)) (uc 12 (by omega)) (uc 13 (by omega)) (uc 4 (by omega)) (um 2 (by omega)) (um 4 (by omega)) (um 5 (by omega)) (fun q a b => um q (by omega)) rfl rfl rfl
  · exact crG_c G k1.2 (um 1 (by omega)) (fun u hu => ⟨um _ (by omega), um _ (by omega)⟩) (fun u hu => by unfold btG; exact updO_n (by omega))
/-- a scope's shutting begins -/
theorem CR_scb (h : CRx x m pool S c C nm g) (hok : mOk m) (hx : x ≤ 0) {a : Nat} (ha : (a : Int) < m 0) (h0 : m (18 + 4 * a) = 0) : CRx x (updI m (18 + 4 * a) 1) pool S (updI c (304 + 3 * a) 2) C nm g := by
  obtain ⟨n, T, A, K, L, ⟨Z, e⟩, ⟨F, f⟩, G, R⟩ := h
  have k0 := hok.2.1
  have k1 := hok.2.2.1
  have k2 := hok.2.2.2.1
  have k3 := hok.2.2.2.2.1
  have um : ∀ q, ¬ q = 18 + 4 * a → updI m (18 + 4 * a) 1 q = m q := fun q w => updI_n w
  have uc : ∀ q, ¬ q = 304 + 3 * a → updI c (304 + 3 * a) 2 q = c q := fun q w => updI_n w
  refine ⟨?_, ?_, ?_, ?_, ?_, ⟨Z, ?_⟩, ⟨F, ?_⟩, ?_, updI_r R.1 (by decide), R.2⟩
  · unfold crN
    rw [um 0 (by omega), um 1 (by omega), um 2 (by omega), um 3 (by omega), uc 0 (by omega), uc 1 (by omega), uc 2 (by omega), uc 8 (by omega), uc 9 (by omega)]
    exact n
  · exact crT_c T k1.2 (um 1 (by omega)) (fun q w y => um q (by omega)) (fun q w y => uc q (by omega)) rfl
  · intro u hu
    rw [um 0 (by omega)] at hu
    obtain ⟨t1, t2, t3⟩ := A u hu
    rw [uc (305 + 3 * u) (by omega), uc (306 + 3 * u) (by omega), um (19 + 4 * u) (by omega), um (21 + 4 * u) (by omega)]
    refine ⟨?_, t2, t3⟩
    by_cases w : u = a
    · subst w; rw [updI_s, updI_s]; decide
    · rw [uc _ (by omega), um _ (by omega)]; exact t1
  · exact crK_c K (um 3 (by omega)) (fun q w y => um q (by omega)) (fun q w => uc q (by omega)) k3.2
  · exact crL_c L k2.2 (um 2 (by omega)) (fun q w y => um q (by omega)) (fun q w y => um q (by omega)) rfl rfl
  · refine crE_c e k1.2 (uc 10 (by omega)) (um 0 (by omega)) (um 1 (by omega)) (um 6 (by omega)) (fun u hu => by rw [um _ (by omega), um _ (by omega)]; exact ⟨Iff.rfl, rfl⟩) (fun u hu hb => ?_)
    rw [um (20 + 4 * u) (by omega)]
    refine ⟨?_, rfl⟩
    by_cases w : u = a
    · subst w; rw [updI_s, h0]; decide
    · rw [um _ (by omega)]
  · have := f.2.1
    exact crF_c f (by omega) (uc 11 (by omega)) (uc 12 (by omega)) (uc 13 (by omega)) (uc 4 (by omega)) (um 2 (by omega)) (um 4 (by omega)) (um 5 (by omega)) (fun q w y => um q (by omega)) rfl rfl rfl
  · exact crG_c G k1.2 (um 1 (by omega)) (fun u hu => ⟨um _ (by omega), um _ (by omega)⟩) (fun _ _ => rfl)
/-- something comes to a counter -/
theorem CR_count (h : CRx x m pool S c C nm g) (hok : mOk m) (hx : x ≤ 0) {k : Nat} {v : Int} (hk : k < 8) (hv : InR v) : CRx x (updI m (10 + k) v) pool S c (updC C 0 (updI (C 0) k v)) nm g := by
  obtain ⟨n, T, A, K, L, ⟨Z, e⟩, ⟨F, f⟩, G, R⟩ := h
  have k0 := hok.2.1
  have k1 := hok.2.2.1
  have k2 := hok.2.2.2.1
  have k3 := hok.2.2.2.2.1
  have um : ∀ q, ¬ q = 10 + k → updI m (10 + k) v q = m q := fun q w => updI_n w
  have C2 : updC C 0 (updI (C 0) k v) 2 = C 2 := updC_n (by decide)
  refine ⟨?_, ?_, ?_, ?_, ?_, ⟨Z, ?_⟩, ⟨F, ?_⟩, ?_, R.1, updC_r R.2 (updI_r (R.2 0) hv)⟩
  · unfold crN
    rw [um 0 (by omega), um 1 (by omega), um 2 (by omega), um 3 (by omega)]
    exact n
  · exact crT_c T k1.2 (um 1 (by omega)) (fun q w y => um q (by omega)) (fun _ _ _ => rfl) rfl
  · exact crS_c A k0.2 (um 0 (by omega)) (fun q w y => um q (by omega)) (fun _ _ _ => rfl)
  · exact crK_c K (um 3 (by omega)) (fun q w y => um q (by omega)) (fun _ _ => rfl) k3.2
  · refine ⟨fun j hj => ?_, fun j hj => ?_⟩
    · rw [updC_s]
      by_cases w : j = k
      · subst w; rw [updI_s, updI_s]
      · rw [updI_n w, um _ (by omega)]; exact L.1 j hj
    · rw [um 2 (by omega)] at hj
      rw [updC_n (by decide), um _ (by omega)]; exact L.2 j hj
  · rw [C2]
    exact crE_c e k1.2 rfl (um 0 (by omega)) (um 1 (by omega)) (um 6 (by omega)) (fun u hu => by rw [um _ (by omega), um _ (by omega)]; exact ⟨Iff.rfl, rfl⟩) (fun u hu hb => by rw [um _ (by omega), um _ (by omega)]; exact ⟨Iff.rfl, rfl⟩)
  · have := f.2.1
    exact crF_c f (by omega) rfl rfl rfl rfl (um 2 (by omega)) (um 4 (by omega)) (um 5 (by omega)) (fun q w y => um q (by omega)) (updC_n (by decide)) (updC_n (by decide)) (updC_n (by decide))
  · exact crG_c G k1.2 (um 1 (by omega)) (fun u hu => ⟨um _ (by omega), um _ (by omega)⟩) (fun _ _ => rfl)
/-- a task's state, or that it is asked for -/
theorem CR_tk (h : CRx x m pool S c C nm g) (hok : mOk m) (hx : x ≤ 0) {q0 : Nat} {v : Int} (hq : q0 < 10) (hv : InR v) : CRx x (updI m (1610 + 72 * q0) v) pool S (updI c (489 + 9 * q0) v) C nm g ∧ CRx x (updI m (1614 + 72 * q0) v) pool S (updI c (496 + 9 * q0) v) C nm g := by
  have main : ∀ i j : Nat, ((i = 1610 + 72 * q0 ∧ j = 489 + 9 * q0) ∨ (i = 1614 + 72 * q0 ∧ j = 496 + 9 * q0)) → CRx x (updI m i v) pool S (updI c j v) C nm g := fun i j hij => by
    obtain ⟨n, T, A, K, L, ⟨Z, e⟩, ⟨F, f⟩, G, R⟩ := h
    have k0 := hok.2.1
    have k1 := hok.2.2.1
    have k2 := hok.2.2.2.1
    have k3 := hok.2.2.2.2.1
    have um : ∀ q, ¬ q = i → updI m i v q = m q := fun q w => updI_n w
    have uc : ∀ q, ¬ q = j → updI c j v q = c q := fun q w => updI_n w
    refine ⟨?_, ?_, ?_, ?_, ?_, ⟨Z, ?_⟩, ⟨F, ?_⟩, ?_, updI_r R.1 hv, R.2⟩
    · unfold crN
      rw [um 0 (by omega), um 1 (by omega), um 2 (by omega), um 3 (by omega), uc 0 (by omega), uc 1 (by omega), uc 2 (by omega), uc 8 (by omega), uc 9 (by omega)]
      exact n
    · exact crT_c T k1.2 (um 1 (by omega)) (fun q w y => um q (by omega)) (fun q w y => uc q (by omega)) rfl
    · exact crS_c A k0.2 (um 0 (by omega)) (fun q w y => um q (by omega)) (fun q w y => uc q (by omega))
    · intro q hq2
      rw [um 3 (by omega)] at hq2
      obtain ⟨a, b⟩ := K q hq2
      rcases hij with ⟨rfl, rfl⟩ | ⟨rfl, rfl⟩
      · rw [uc (496 + 9 * q) (by omega), um (1614 + 72 * q) (by omega)]
        refine ⟨?_, b⟩
        by_cases w : q = q0
        · subst w; rw [updI_s, updI_s]
        · rw [uc _ (by omega), um _ (by omega)]; exact a
      · rw [uc (489 + 9 * q) (by omega), um (1610 + 72 * q) (by omega)]
        refine ⟨a, ?_⟩
        by_cases w : q = q0
        · subst w; rw [updI_s, updI_s]
        · rw [uc _ (by omega), um _ (by omega)]; exact b
    · exact crL_c L k2.2 (um 2 (by omega)) (fun q w y => um q (by omega)) (fun q w y => um q (by omega)) rfl rfl
    · exact crE_c e k1.2 (uc 10 (by omega)) (um 0 (by omega)) (um 1 (by omega)) (um 6 (by omega)) (fun u hu => by rw [um _ (by omega), um _ (by omega)]; exact ⟨Iff.rfl, rfl⟩) (fun u hu hb => by rw [um _ (by omega), um _ (by omega)]; exact ⟨Iff.rfl, rfl⟩)
    · have := f.2.1
      exact crF_c f (by omega) (uc 11 (by omega)) (uc 12 (by omega)) (uc 13 (by omega)) (uc 4 (by omega)) (um 2 (by omega)) (um 4 (by omega)) (um 5 (by omega)) (fun q w y => um q (by omega)) rfl rfl rfl
    · exact crG_c G k1.2 (um 1 (by omega)) (fun u hu => ⟨um _ (by omega), um _ (by omega)⟩) (fun _ _ => rfl)
  exact ⟨main _ _ (Or.inl ⟨rfl, rfl⟩), main _ _ (Or.inr ⟨rfl, rfl⟩)⟩
end CHG
